/-! THE CHECKER, one step, calls; the step -/
noncomputable def rf_s_v (ci RC RS pc : Nat) (sp : rf_SP) (S : rf_AS) : rf_SS := match sp.2.2.1.2.1 with
  | r :: _ => if Nat.beq r.1 2 then (match sp.2.2.1.2.2.1[r.2.1]? with
      | some ce => if Nat.beq ce.1 0 && Nat.beq ce.2.1 ci then rf_calls S.1 S.2.1 S.2.2.1 S.2.2.2.1 S.2.2.2.2.1 S.2.2.2.2.2.1 S.2.2.2.2.2.2 RC RS pc sp else none
      | none => none) else none
  | [] => none
noncomputable def rf_s_i (RC RS pc : Nat) (sp : rf_SP) (S : rf_AS) : rf_SS := match sp.2.2.1.2.1 with
  | r :: _ => if Nat.beq r.1 2 then rf_calls S.1 S.2.1 S.2.2.1 S.2.2.2.1 S.2.2.2.2.1 S.2.2.2.2.2.1 S.2.2.2.2.2.2 RC RS pc sp else none
  | [] => none
def rf_s_obj (RF RL pc : Nat) (S : rf_AS) : rf_SS := match S.2.2.1 with
  | a :: st => if Nat.beq a.1 2 && (Nat.ble 1 RF && Nat.ble (rf_cats st + 12) RL) then some [(pc, (S.1, S.2.1, st, S.2.2.2))] else none
  | [] => none
def rf_s_mm (mx : Bool) (RF RC RS RL pc : Nat) (S : rf_AS) : rf_SS := match S.2.2.1 with
  | b :: a :: st => if Nat.beq a.1 0 && (Nat.beq b.1 0 && (Nat.ble 1 RF && (Nat.ble (rf_cats st + 13) RL && (Nat.ble S.2.2.2.2.2.1 RC && Nat.ble S.2.2.2.2.2.2 RS)))) then (match rf_gi S.1 a.2.1, rf_gi S.1 b.2.1 with
      | some z, some z' => if mx then some [(pc, ((rf_fr S.1 0 (if z.1 + a.2.2 ≤ z'.1 + b.2.2 then z'.1 + b.2.2 else z.1 + a.2.2) (if z.2.1 + a.2.2 ≤ z'.2.1 + b.2.2 then z'.2.1 + b.2.2 else z.2.1 + a.2.2)).1, S.2.1, (rf_fr S.1 0 (if z.1 + a.2.2 ≤ z'.1 + b.2.2 then z'.1 + b.2.2 else z.1 + a.2.2) (if z.2.1 + a.2.2 ≤ z'.2.1 + b.2.2 then z'.2.1 + b.2.2 else z.2.1 + a.2.2)).2 :: st, S.2.2.2))]
        else some [(pc, ((rf_fr S.1 0 (if z.1 + a.2.2 ≤ z'.1 + b.2.2 then z.1 + a.2.2 else z'.1 + b.2.2) (if z.2.1 + a.2.2 ≤ z'.2.1 + b.2.2 then z.2.1 + a.2.2 else z'.2.1 + b.2.2)).1, S.2.1, (rf_fr S.1 0 (if z.1 + a.2.2 ≤ z'.1 + b.2.2 then z.1 + a.2.2 else z'.1 + b.2.2) (if z.2.1 + a.2.2 ≤ z'.2.1 + b.2.2 then z.2.1 + a.2.2 else z'.2.1 + b.2.2)).2 :: st, S.2.2.2))]
      | _, _ => none) else none
  | _ => none
/-- the greater, the less: by cases -/
def rf_s_mm2 (mx : Bool) (RF RC RS RL pc : Nat) (S : rf_AS) : rf_SS := match S.2.2.1 with
  | b :: a :: st => if Nat.beq a.1 0 && (Nat.beq b.1 0 && (Nat.ble 1 RF && (Nat.ble (rf_cats st + 13) RL && (Nat.ble S.2.2.2.2.2.1 RC && Nat.ble S.2.2.2.2.2.2 RS)))) then (if mx then some (rf_opt pc (rf_lt S.1 a b) S.2.1 (b :: st) S.2.2.2 ++ rf_opt pc (rf_le S.1 b a) S.2.1 (a :: st) S.2.2.2) else some (rf_opt pc (rf_lt S.1 b a) S.2.1 (b :: st) S.2.2.2 ++ rf_opt pc (rf_le S.1 a b) S.2.1 (a :: st) S.2.2.2)) else none
  | _ => none
def rf_s_copy (RF RL pc : Nat) (S : rf_AS) : rf_SS := match S.2.2.1 with
  | n :: dp :: a1 :: sp :: a0 :: st => if Nat.beq a1.1 2 && (Nat.beq a0.1 2 && (rf_nn S.1 sp && (rf_nn S.1 dp && (rf_nn S.1 n && (Nat.ble 1 RF && Nat.ble (rf_cats st + 64) RL))))) then (match S.2.2.2.1[a0.2.1]?, S.2.2.2.1[a1.2.1]? with
      | some c0, some c1 => if Nat.beq c0.1 1 && (Nat.beq c1.1 1 && (Nat.beq c0.2.1 c1.2.1 && (Nat.ble c0.2.1 1 && (rf_suml S.1 S.2.2.2.2.1 sp n c0.2.2.1 && rf_suml S.1 S.2.2.2.2.1 dp n c1.2.2.1)))) then some [(pc, ((rf_cps S.1 a0.2.1 a1.2.1 c1.2.2.1 sp dp n S.2.2.2.2.1).1, S.2.1, st, S.2.2.2.1.set a1.2.1 (1, c1.2.1, c1.2.2.1, rf_join c1.2.2.2.1 c0.2.2.2.1.1 c0.2.2.2.1.2, c1.2.2.2.2), (rf_cps S.1 a0.2.1 a1.2.1 c1.2.2.1 sp dp n S.2.2.2.2.1).2, S.2.2.2.2.2))] else none
      | _, _ => none) else none
  | _ => none
def rf_ml (ML : List (Nat × Nat × Nat × List rf_SP)) (idx : Nat) : Option (Nat × Nat × Nat × List rf_SP) := ML.find? (fun q => Nat.beq q.1 idx)
noncomputable def rf_s_iv (ML : List (Nat × Nat × Nat × List rf_SP)) (RC RS idx pc : Nat) (S : rf_AS) : rf_SS := match rf_ml ML idx with
  | some q => if Nat.beq q.2.1 0 then q.2.2.2.findSome? (fun sp => rf_s_v q.2.2.1 RC RS pc sp S) else if Nat.beq q.2.1 7 then q.2.2.2.findSome? (fun sp => rf_calls S.1 S.2.1 S.2.2.1 S.2.2.2.1 S.2.2.2.2.1 S.2.2.2.2.2.1 S.2.2.2.2.2.2 RC RS pc sp) else none
  | none => none
noncomputable def rf_s_is (ML : List (Nat × Nat × Nat × List rf_SP)) (df : Bool) (RF RC RS RL idx pc : Nat) (S : rf_AS) : rf_SS := match rf_ml ML idx with
  | some q => if Nat.beq q.2.1 1 then q.2.2.2.findSome? (fun sp => rf_calls S.1 S.2.1 S.2.2.1 S.2.2.2.1 S.2.2.2.2.1 S.2.2.2.2.2.1 S.2.2.2.2.2.2 RC RS pc sp)
    else if Nat.beq q.2.1 4 then (if df then rf_s_mm2 true RF RC RS RL (pc + 3) S else rf_s_mm true RF RC RS RL (pc + 3) S)
    else if Nat.beq q.2.1 5 then (if df then rf_s_mm2 false RF RC RS RL (pc + 3) S else rf_s_mm false RF RC RS RL (pc + 3) S)
    else if Nat.beq q.2.1 6 then rf_s_copy RF RL (pc + 3) S else none
  | none => none
noncomputable def rf_s_ii (ML : List (Nat × Nat × Nat × List rf_SP)) (RF RC RS RL idx pc : Nat) (S : rf_AS) : rf_SS := match rf_ml ML idx with
  | some q => if Nat.beq q.2.1 2 then q.2.2.2.findSome? (fun sp => rf_s_i RC RS pc sp S)
    else if Nat.beq q.2.1 3 then rf_s_obj RF RL (pc + 3) S else none
  | none => none
/-- what a class file's entries of methods must say -/
def rf_MLok (p : Program) (l : Launch) (e : Env) (R : Room) (s : State) (m : MethodId) (args : Array Value) (below : List Frame) (meth : Method) (c : Code) (cc : ByteArray) (nL : Nat) (own : String) (D : va_G) (cl : List vw_C) (tys : List (ClassId × FieldType)) (xt : Nat → Nat) (N : (Nat → Prop) → State → Prop) (G : List Cond) (q : Nat × Nat × Nat × List rf_SP) : Prop :=
  (q.2.1 = 0 → ∀ sp ∈ q.2.2.2, rf_OK l D cl tys xt N G sp ∧ rf_CV p l e R s m args below meth c cc nL G q.1 sp ∧ ∃ T N, cl[q.2.2.1]? = some (sp.1.1.cls, T, N)) ∧
  (q.2.1 = 1 → ∀ sp ∈ q.2.2.2, rf_OK l D cl tys xt N G sp ∧ rf_CS p l e R s m args below meth c cc nL G q.1 sp) ∧
  (q.2.1 = 2 → ∀ sp ∈ q.2.2.2, rf_OK l D cl tys xt N G sp ∧ rf_CI p l e R s m args below meth c cc nL G q.1 sp) ∧
  (q.2.1 = 3 → (Cond.methodLink own q.1 Lib.objectInit).before args s = true ∧ (Cond.instanceMethod Lib.objectInit).before args s = true ∧ (Cond.code Lib.objectInit ⟨#[0xb1]⟩ 1 none).before args s = true) ∧
  (q.2.1 = 4 → (Cond.methodLink own q.1 Lib.Math.max.name).before args s = true ∧ (Cond.static Lib.Math.max.name).before args s = true ∧ (Cond.initialized "java/lang/Math").before args s = true ∧ (Cond.code Lib.Math.max.name Lib.Math.max.code 2 (some .int)).before args s = true) ∧
  (q.2.1 = 5 → (Cond.methodLink own q.1 Lib.Math.min.name).before args s = true ∧ (Cond.static Lib.Math.min.name).before args s = true ∧ (Cond.initialized "java/lang/Math").before args s = true ∧ (Cond.code Lib.Math.min.name Lib.Math.min.code 2 (some .int)).before args s = true) ∧
  (q.2.1 = 6 → (Cond.methodLink own q.1 arraycopyName).before args s = true ∧ (Cond.native arraycopyName).before args s = true ∧ (Cond.static arraycopyName).before args s = true ∧ (Cond.initialized "java/lang/System").before args s = true) ∧
  (q.2.1 = 7 → ∀ sp ∈ q.2.2.2, rf_OK l D cl tys xt N G sp ∧ rf_CV p l e R s m args below meth c cc nL G q.1 sp ∧ ∃ k0 d0 as0, sp.2.2.1.2.1 = (4, k0, d0) :: as0 ∧ ∀ (A : Nat → Prop), N A s → ∀ (H : Heap) (locs : List Loc), va_S A s.heap H locs → ∃ cell : Cell, H[xt k0]? = some cell ∧ cell.vm.isStatics = false ∧ s.vm.findClass sp.1.1.cls = some cell.cls)
theorem rf_ml_mem {ML : List (Nat × Nat × Nat × List rf_SP)} {idx : Nat} {q : Nat × Nat × Nat × List rf_SP} (h : rf_ml ML idx = some q) : q ∈ ML ∧ q.1 = idx := by
  have h2 := List.find?_some h
  exact ⟨List.mem_of_find?_eq_some h, Nat.eq_of_beq_eq_true h2⟩
theorem rf_native : nativeFrameWords "java/lang/System" "arraycopy" 5 + 11 ≤ 64 := by decide
section
variable {p : Program} {l : Launch} {e : Env} {R : Room} {s : State} {m : MethodId} {args : Array Value} {below : List Frame} {meth : Method} {c : Code} {Q : State → Prop}
variable {cc : ByteArray} {D : va_G} {cl : List vw_C} {tys : List (ClassId × FieldType)} {A : Nat → Prop} {H0 : Heap} {xt : Nat → Nat} {nL : Nat} {ρ0 : List Int × List Nat}
variable {CO own : String} {N : (Nat → Prop) → State → Prop} {G : List Cond} {ML : List (Nat × Nat × Nat × List rf_SP)} {RF RC RS RL : Nat}
theorem rf_t_iv {pc idx : Nat} {S : rf_AS} {ss : List (Nat × rf_AS)} (hH : H0 = s.heap) (hK : va_K D cl tys s) (hA : ∀ q, H0.size ≤ q → A q) (hN : rf_Nok N) (hNs : N A s) (hML : ∀ q ∈ ML, rf_MLok p l e R s m args below meth c cc nL own D cl tys xt N G q) (hRC : RC ≤ R.cells) (hRS : RS ≤ R.slots) (hd : decode cc pc = .ok (.invokevirtual idx, 3)) (h : rf_s_iv ML RC RS idx pc S = some ss) (kk : rf_K p l e R s m args below meth c Q D cl tys A H0 xt nL ρ0 ss) : rf_G p l e R s m args below meth c Q D cl tys A H0 xt nL ρ0 pc S := by
  obtain ⟨E, L, st, w, fs, nc, ns⟩ := S
  unfold rf_s_iv at h
  split at h
  next q hq =>
    obtain ⟨q1, q2⟩ := rf_ml_mem hq
    split at h
    next h0 =>
      obtain ⟨sp, s1, s2⟩ := List.exists_of_findSome?_eq_some h
      obtain ⟨a1, a2, T, N0, a3⟩ := (hML q q1).1 (Nat.eq_of_beq_eq_true h0) sp s1
      unfold rf_s_v at s2
      split at s2
      next r rr hr =>
        split at s2
        next hr2 =>
          obtain ⟨tr, kr, dr⟩ := r
          cases Nat.eq_of_beq_eq_true hr2
          split at s2
          next ce hce =>
            split at s2
            next hc =>
              simp only [Bool.and_eq_true] at hc
              obtain ⟨cs, ci, cb, civ, cav⟩ := ce
              cases Nat.eq_of_beq_eq_true hc.1
              have e := Nat.eq_of_beq_eq_true hc.2
              dsimp only at e
              rw [← e] at a3
              exact rf_o_callV hH hK hA hN hNs a1 hRC hRS s2 hr hce a3 (by rw [← q2]; exact a2) hd kk
            next => cases s2
          next => cases s2
        next => cases s2
      next => cases s2
    next =>
      split at h
      next h0 =>
        obtain ⟨sp, s1, s2⟩ := List.exists_of_findSome?_eq_some h
        obtain ⟨a1, a2, k0, d0, as0, a3, a4⟩ := (hML q q1).2.2.2.2.2.2.2 (Nat.eq_of_beq_eq_true h0) sp s1
        exact rf_o_callK hH hK hA hN hNs a1 hRC hRS s2 a3 (a4 A hNs) (by rw [← q2]; exact a2) hd kk
      next => cases h
  next => cases h
theorem rf_t_is {df : Bool} {pc idx : Nat} {S : rf_AS} {ss : List (Nat × rf_AS)} (hx : p.tables.exec = Jvm.exec) (hb : c.code = cc) (hml : c.maxLocals = nL) (hown : s.vm.findClass own = some m.cls) (hTY : rf_TY tys CO) (hH : H0 = s.heap) (hK : va_K D cl tys s) (hA : ∀ q, H0.size ≤ q → A q) (hN : rf_Nok N) (hNs : N A s) (hML : ∀ q ∈ ML, rf_MLok p l e R s m args below meth c cc nL own D cl tys xt N G q) (hRF : RF ≤ R.frames) (hRC : RC ≤ R.cells) (hRS : RS ≤ R.slots) (hRL : RL ≤ R.locals) (hd : decode cc pc = .ok (.invokestatic idx, 3)) (h : rf_s_is ML df RF RC RS RL idx pc S = some ss) (kk : rf_K p l e R s m args below meth c Q D cl tys A H0 xt nL ρ0 ss) : rf_G p l e R s m args below meth c Q D cl tys A H0 xt nL ρ0 pc S := by
  obtain ⟨E, L, st, w, fs, nc, ns⟩ := S
  unfold rf_s_is at h
  split at h
  next q hq =>
    obtain ⟨q1, q2⟩ := rf_ml_mem hq
    have hMq := hML q q1
    rw [← q2] at hd
    split at h
    next h0 =>
      obtain ⟨sp, s1, s2⟩ := List.exists_of_findSome?_eq_some h
      obtain ⟨a1, a2⟩ := hMq.2.1 (Nat.eq_of_beq_eq_true h0) sp s1
      exact rf_o_callS hH hK hA hN hNs a1 hRC hRS s2 a2 hd kk
    next =>
      split at h
      next h0 =>
        obtain ⟨a1, a2, a3, a4⟩ := hMq.2.2.2.2.1 (Nat.eq_of_beq_eq_true h0)
        split at h
        next =>
          unfold rf_s_mm2 at h
          dsimp only at h
          split at h
          next b a st' =>
            split at h
            next hc =>
              simp only [Bool.and_eq_true] at hc
              obtain ⟨c1, c2, c3, c4, c5, c6⟩ := hc
              simp only [if_true] at h
              cases h
              exact rf_o_max2 hx hb hml hown a1 a2 a3 a4 (Nat.le_trans (Nat.le_of_ble_eq_true c3) hRF) (Nat.le_trans (Nat.le_of_ble_eq_true c4) hRL) (Nat.le_trans (Nat.le_of_ble_eq_true c5) hRC) (Nat.le_trans (Nat.le_of_ble_eq_true c6) hRS) (Nat.eq_of_beq_eq_true c1) (Nat.eq_of_beq_eq_true c2) hd kk
            next => cases h
          next => cases h
        next =>
          unfold rf_s_mm at h
          dsimp only at h
          split at h
          next b a st' =>
            split at h
            next hc =>
              simp only [Bool.and_eq_true] at hc
              obtain ⟨c1, c2, c3, c4, c5, c6⟩ := hc
              split at h
              next z z' hz hz' =>
                simp only [if_true] at h
                cases h
                exact rf_o_max hx hb hml hown a1 a2 a3 a4 (Nat.le_trans (Nat.le_of_ble_eq_true c3) hRF) (Nat.le_trans (Nat.le_of_ble_eq_true c4) hRL) (Nat.le_trans (Nat.le_of_ble_eq_true c5) hRC) (Nat.le_trans (Nat.le_of_ble_eq_true c6) hRS) (Nat.eq_of_beq_eq_true c1) (Nat.eq_of_beq_eq_true c2) hz hz' hd (kk _ List.mem_cons_self)
              next => cases h
            next => cases h
          next => cases h
      next =>
        split at h
        next h0 =>
          obtain ⟨a1, a2, a3, a4⟩ := hMq.2.2.2.2.2.1 (Nat.eq_of_beq_eq_true h0)
          split at h
          next =>
            unfold rf_s_mm2 at h
            dsimp only at h
            split at h
            next b a st' =>
              split at h
              next hc =>
                simp only [Bool.and_eq_true] at hc
                obtain ⟨c1, c2, c3, c4, c5, c6⟩ := hc
                simp only [Bool.false_eq_true, if_false] at h
                cases h
                exact rf_o_min2 hx hb hml hown a1 a2 a3 a4 (Nat.le_trans (Nat.le_of_ble_eq_true c3) hRF) (Nat.le_trans (Nat.le_of_ble_eq_true c4) hRL) (Nat.le_trans (Nat.le_of_ble_eq_true c5) hRC) (Nat.le_trans (Nat.le_of_ble_eq_true c6) hRS) (Nat.eq_of_beq_eq_true c1) (Nat.eq_of_beq_eq_true c2) hd kk
              next => cases h
            next => cases h
          next =>
            unfold rf_s_mm at h
            dsimp only at h
            split at h
            next b a st' =>
              split at h
              next hc =>
                simp only [Bool.and_eq_true] at hc
                obtain ⟨c1, c2, c3, c4, c5, c6⟩ := hc
                split at h
                next z z' hz hz' =>
                  simp only [Bool.false_eq_true, if_false] at h
                  cases h
                  exact rf_o_min hx hb hml hown a1 a2 a3 a4 (Nat.le_trans (Nat.le_of_ble_eq_true c3) hRF) (Nat.le_trans (Nat.le_of_ble_eq_true c4) hRL) (Nat.le_trans (Nat.le_of_ble_eq_true c5) hRC) (Nat.le_trans (Nat.le_of_ble_eq_true c6) hRS) (Nat.eq_of_beq_eq_true c1) (Nat.eq_of_beq_eq_true c2) hz hz' hd (kk _ List.mem_cons_self)
                next => cases h
              next => cases h
            next => cases h
        next =>
          split at h
          next h0 =>
            obtain ⟨a1, a2, a3, a4⟩ := hMq.2.2.2.2.2.2.1 (Nat.eq_of_beq_eq_true h0)
            unfold rf_s_copy at h
            dsimp only at h
            split at h
            next n dp r1 sp r0 st' =>
              split at h
              next hc =>
                simp only [Bool.and_eq_true] at hc
                obtain ⟨c1, c2, c3, c4, c5, c6, c7⟩ := hc
                obtain ⟨t1, g1, d1⟩ := r1
                obtain ⟨t0, g0, d0⟩ := r0
                cases Nat.eq_of_beq_eq_true c1
                cases Nat.eq_of_beq_eq_true c2
                have hrl : rf_cats st' + (nativeFrameWords "java/lang/System" "arraycopy" 5 + 11) ≤ R.locals := by
                  have k1 := rf_native
                  have k2 := Nat.le_of_ble_eq_true c7
                  omega
                split at h
                next ce0 ce1 hce0 hce1 =>
                  split at h
                  next hc2 =>
                    simp only [Bool.and_eq_true] at hc2
                    obtain ⟨e1, e2, e3, e4, e5, e6⟩ := hc2
                    obtain ⟨cs0, ci0, cb0, civ0, cav0⟩ := ce0
                    obtain ⟨cs1, ci1, cb1, civ1, cav1⟩ := ce1
                    cases Nat.eq_of_beq_eq_true e1
                    cases Nat.eq_of_beq_eq_true e2
                    cases Nat.eq_of_beq_eq_true e3
                    have e4' := Nat.le_of_ble_eq_true e4
                    cases h
                    match ci0, e4', hce0, hce1, e5, e6, kk with
                    | 0, _, hce0, hce1, e5, e6, kk => exact rf_o_copyi hx hb hml hown a1 a2 a3 a4 hK (fun cA ty' ht => rf_TY_at hTY ht rfl) hce0 hce1 c3 c4 c5 e5 e6 (Nat.le_trans (Nat.le_of_ble_eq_true c6) hRF) hrl hd (kk _ List.mem_cons_self)
                    | 1, _, hce0, hce1, e5, e6, kk => exact rf_o_copyl hx hb hml hown a1 a2 a3 a4 hK (fun cA ty' ht => rf_TY_at hTY ht rfl) hce0 hce1 c3 c4 c5 e5 e6 (Nat.le_trans (Nat.le_of_ble_eq_true c6) hRF) hrl hd (kk _ List.mem_cons_self)
                  next => cases h
                next => cases h
              next => cases h
            next => cases h
          next => cases h
  next => cases h
theorem rf_t_ii {pc idx : Nat} {S : rf_AS} {ss : List (Nat × rf_AS)} (hx : p.tables.exec = Jvm.exec) (hb : c.code = cc) (hml : c.maxLocals = nL) (hown : s.vm.findClass own = some m.cls) (hH : H0 = s.heap) (hK : va_K D cl tys s) (hA : ∀ q, H0.size ≤ q → A q) (hN : rf_Nok N) (hNs : N A s) (hML : ∀ q ∈ ML, rf_MLok p l e R s m args below meth c cc nL own D cl tys xt N G q) (hRF : RF ≤ R.frames) (hRC : RC ≤ R.cells) (hRS : RS ≤ R.slots) (hRL : RL ≤ R.locals) (hd : decode cc pc = .ok (.invokespecial idx, 3)) (h : rf_s_ii ML RF RC RS RL idx pc S = some ss) (kk : rf_K p l e R s m args below meth c Q D cl tys A H0 xt nL ρ0 ss) : rf_G p l e R s m args below meth c Q D cl tys A H0 xt nL ρ0 pc S := by
  obtain ⟨E, L, st, w, fs, nc, ns⟩ := S
  unfold rf_s_ii at h
  split at h
  next q hq =>
    obtain ⟨q1, q2⟩ := rf_ml_mem hq
    have hMq := hML q q1
    rw [← q2] at hd
    split at h
    next h0 =>
      obtain ⟨sp, s1, s2⟩ := List.exists_of_findSome?_eq_some h
      obtain ⟨a1, a2⟩ := hMq.2.2.1 (Nat.eq_of_beq_eq_true h0) sp s1
      unfold rf_s_i at s2
      split at s2
      next r rr hr =>
        split at s2
        next hr2 =>
          obtain ⟨tr, kr, dr⟩ := r
          cases Nat.eq_of_beq_eq_true hr2
          exact rf_o_callI hH hK hA hN hNs a1 hRC hRS s2 hr a2 hd kk
        next => cases s2
      next => cases s2
    next =>
      split at h
      next h0 =>
        obtain ⟨a1, a2, a3⟩ := hMq.2.2.2.1 (Nat.eq_of_beq_eq_true h0)
        unfold rf_s_obj at h
        dsimp only at h
        split at h
        next a st' =>
          split at h
          next hc =>
            simp only [Bool.and_eq_true] at hc
            obtain ⟨c1, c2, c3⟩ := hc
            obtain ⟨ta, ga, da⟩ := a
            cases Nat.eq_of_beq_eq_true c1
            cases h
            exact rf_o_obj hx hb hml hown a1 a2 a3 (Nat.le_trans (Nat.le_of_ble_eq_true c2) hRF) (Nat.le_trans (Nat.le_of_ble_eq_true c3) hRL) hd (kk _ List.mem_cons_self)
          next => cases h
        next => cases h
      next => cases h
  next => cases h
end
