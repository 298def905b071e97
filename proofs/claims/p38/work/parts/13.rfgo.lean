/-! THE CHECKER, the call itself -/
def rf_Nok (N : (Nat → Prop) → State → Prop) : Prop := (∀ (A B : Nat → Prop) (s U : State) (H : Heap) (locs : List Loc), N A s → va_S A s.heap H locs → U.heap = H → s.WarmedH U.vm → (∀ q, B q → A q) → N B U) ∧ ∀ (A : Nat → Prop) (U : State) (g : JFrame) (mk : MethodId) (a : Array Value), N A U → N A (U.calling g mk a)
noncomputable def rf_posts (E : rf_EV) (w : List rf_AC) (fs : List rf_FC) (σ : List (Nat × Int)) (μ : List Nat) (pc : Nat) (L : rf_LC) (rest : List rf_AV) (nc ns : Nat) : List rf_PO → Option (List (Nat × rf_AS))
  | [] => some []
  | po :: ps => match rf_apply E w fs σ μ po, rf_posts E w fs σ μ pc L rest nc ns ps with
    | some none, some r => some r
    | some (some (E2, w2, f2, r2)), some r => some ((pc, (E2, L, r2.toList ++ rest, w2, f2, nc, ns)) :: r)
    | _, _ => none
theorem rf_posts_mem {E : rf_EV} {w : List rf_AC} {fs : List rf_FC} {σ : List (Nat × Int)} {μ : List Nat} {pc : Nat} {L : rf_LC} {rest : List rf_AV} {nc ns : Nat} {po : rf_PO} : ∀ {ps : List rf_PO} {r : List (Nat × rf_AS)}, rf_posts E w fs σ μ pc L rest nc ns ps = some r → po ∈ ps → ∃ z, rf_apply E w fs σ μ po = some z ∧ ∀ E2 w2 f2 r2, z = some (E2, w2, f2, r2) → (pc, (E2, L, r2.toList ++ rest, w2, f2, nc, ns)) ∈ r
  | [], _, _, h => by cases h
  | q :: ps, r, hr, h => by
    unfold rf_posts at hr
    split at hr
    next r' h1 h2 =>
      cases hr
      rcases List.mem_cons.mp h with rfl | h
      · exact ⟨_, h1, fun _ _ _ _ hz => by cases hz⟩
      · exact rf_posts_mem h2 h
    next E2 w2 f2 r2 r' h1 h2 =>
      cases hr
      rcases List.mem_cons.mp h with rfl | h
      · refine ⟨_, h1, fun _ _ _ _ hz => ?_⟩
        cases hz
        exact List.mem_cons_self
      · obtain ⟨z, z1, z2⟩ := rf_posts_mem h2 h
        exact ⟨z, z1, fun a b c d hz => List.mem_cons_of_mem _ (z2 a b c d hz)⟩
    next => cases hr
section
variable {p : Program} {l : Launch} {e : Env} {R : Room} {s : State} {m : MethodId} {args : Array Value} {below : List Frame} {meth : Method} {c : Code} {Q : State → Prop}
variable {cc : ByteArray} {D : va_G} {cl : List vw_C} {tys : List (ClassId × FieldType)} {A : Nat → Prop} {H0 : Heap} {xt : Nat → Nat} {nL : Nat} {ρ0 : List Int × List Nat}
variable {pc : Nat} {ls : Array Slot} {rest st0 : List Value} {H : Heap} {locs : List Loc} {nc ns mc ms : Nat}
theorem rf_call_go {posts : List rf_PO} {ρc : List Int} {wc : va_W} {a : Array Value} (hr : va_Run p l e R s m args below meth c H locs nc ns mc ms (F0 m pc ls st0) rest (rf_Qc D cl tys xt posts ρc wc H.size a) (va_A wc H.size)) (hS : va_S A H0 H locs) (hF : ∀ q, va_A wc H.size q → A q)
    (kk : ∀ (v : Option Value) (t : State) (H1 : Heap) (locs1 : List Loc), t.heap = H1 → s.vm.Alike t.vm → rf_Qb D cl tys xt posts ρc wc H.size v t → (∀ q : Nat, q < H.size → ¬ va_A wc H.size q → H1[q]? = H[q]?) → va_S A H0 H1 locs1 → W p l e R s m args below meth c H1 locs1 (nc + mc) (ns + ms) Q (F0 m (pc + 3) ls (v.toList ++ rest))) : W p l e R s m args below meth c H locs nc ns Q (F0 m pc ls st0) := by
  intro T hT X
  obtain ⟨v, st₀, t, T', L, h0, X', hL, e1, e2, ⟨⟨v', hv, hb⟩, hz, hk⟩, st⟩ := hr T hT X
  cases hv
  rw [h0] at hz hk
  obtain ⟨t2, a1, b1⟩ := kk v t T'.heap (locs ++ L) e1.symm (by rw [← e2]; exact X'.warmed.alike) hb (fun q h1 h2 => by rw [e1]; exact hk q h1 h2)
    ⟨Nat.le_trans hS.1 (by rw [e1]; exact hz), fun q h1 h2 => by rw [e1, hk q (Nat.lt_of_lt_of_le h1 hS.1) (fun z => h2 (hF q z))]; exact hS.2.1 q h1 h2, fun q hq => by
      rcases List.mem_append.mp hq with h | h
      · exact hS.2.2 q h
      · exact hF _ (hL q h)⟩ T' rfl X'
  exact ⟨t2, st t2 a1, b1⟩
end
/-- the words of a call in a class file, as the machine needs them: a method of an object, a static one, a constructor -/
def rf_CV (p : Program) (l : Launch) (e : Env) (R : Room) (s : State) (m : MethodId) (args : Array Value) (below : List Frame) (meth : Method) (c : Code) (cc : ByteArray) (nL : Nat) (G : List Cond) (idx : Nat) (sp : rf_SP) : Prop :=
  ∀ (Pc : Array Value → State → Prop) (Qc : Array Value → State → Outcome → State → Prop) (free : Addr → Prop) (H : Heap) (locs : List Loc) (cells slots : Nat) (ls : Array Slot) (pc : Nat) (b : Nat) (As rest : List Value), Met l sp.1.1 (rf_cw sp :: G) (rf_rm sp) Pc Qc sp.2.1.2.2.1 sp.2.1.2.2.2 free → PreV s H sp.1.1.cls b Pc As → As.length + 1 = sp.2.2.1.2.1.length → ls.size = nL → (rest.map fun v => v.category).sum ≤ 8 → decode cc pc = .ok (.invokevirtual idx, 3) → cells + sp.2.1.2.2.1 ≤ R.cells ∧ slots + sp.2.1.2.2.2 ≤ R.slots →
    va_Run p l e R s m args below meth c H locs cells slots sp.2.1.2.2.1 sp.2.1.2.2.2 (F0 m pc ls (As.reverse ++ .ref b :: rest)) rest (Qc (Value.ref b :: As).toArray) free
def rf_CS (p : Program) (l : Launch) (e : Env) (R : Room) (s : State) (m : MethodId) (args : Array Value) (below : List Frame) (meth : Method) (c : Code) (cc : ByteArray) (nL : Nat) (G : List Cond) (idx : Nat) (sp : rf_SP) : Prop :=
  ∀ (Pc : Array Value → State → Prop) (Qc : Array Value → State → Outcome → State → Prop) (free : Addr → Prop) (H : Heap) (locs : List Loc) (cells slots : Nat) (ls : Array Slot) (pc : Nat) (As rest : List Value), Met l sp.1.1 (rf_cw sp :: G) (rf_rm sp) Pc Qc sp.2.1.2.2.1 sp.2.1.2.2.2 free → PreS s H Pc As → As.length = sp.2.2.1.2.1.length → ls.size = nL → (rest.map fun v => v.category).sum ≤ 8 → decode cc pc = .ok (.invokestatic idx, 3) → cells + sp.2.1.2.2.1 ≤ R.cells ∧ slots + sp.2.1.2.2.2 ≤ R.slots →
    va_Run p l e R s m args below meth c H locs cells slots sp.2.1.2.2.1 sp.2.1.2.2.2 (F0 m pc ls (As.reverse ++ rest)) rest (Qc As.toArray) free
def rf_CI (p : Program) (l : Launch) (e : Env) (R : Room) (s : State) (m : MethodId) (args : Array Value) (below : List Frame) (meth : Method) (c : Code) (cc : ByteArray) (nL : Nat) (G : List Cond) (idx : Nat) (sp : rf_SP) : Prop :=
  ∀ (Pc : Array Value → State → Prop) (Qc : Array Value → State → Outcome → State → Prop) (free : Addr → Prop) (H : Heap) (locs : List Loc) (cells slots : Nat) (ls : Array Slot) (pc : Nat) (b : Nat) (As rest : List Value), Met l sp.1.1 (rf_cw sp :: G) (rf_rm sp) Pc Qc sp.2.1.2.2.1 sp.2.1.2.2.2 free → PreS s H Pc (.ref b :: As) → As.length + 1 = sp.2.2.1.2.1.length → ls.size = nL → (rest.map fun v => v.category).sum ≤ 8 → decode cc pc = .ok (.invokespecial idx, 3) → cells + sp.2.1.2.2.1 ≤ R.cells ∧ slots + sp.2.1.2.2.2 ≤ R.slots →
    va_Run p l e R s m args below meth c H locs cells slots sp.2.1.2.2.1 sp.2.1.2.2.2 (F0 m pc ls (As.reverse ++ .ref b :: rest)) rest (Qc (Value.ref b :: As).toArray) free
/-- what is tried of a call: σ and μ, and whether they do -/
noncomputable def rf_sm (w : List rf_AC) (fs : List rf_FC) (pre : rf_PRE) (as : List rf_AV) : List (Nat × Int) × List Nat := qj_fin 0 0 pre.1 pre.2.2.1 pre.2.2.2 w fs [] [] pre.2.1 as
noncomputable def rf_cok (E : rf_EV) (w : List rf_AC) (fs : List rf_FC) (pre : rf_PRE) (as : List rf_AV) (σ : List (Nat × Int)) (μ : List Nat) : Bool := rf_all2 (rf_mv E σ μ) pre.2.1 as && rf_msF E σ μ w fs pre.1 pre.2.2.1 pre.2.2.2
/-- may the value b be the pattern's value a, by its bounds alone (it only spares what can't be) -/
noncomputable def qf_pv (gi : Nat → Option rf_GI) (P : List rf_GI) (a b : rf_AV) : Bool :=
  Bool.rec (motive := fun _ => Bool) true
    (Option.rec (motive := fun _ => Bool) true (fun z => Option.rec (motive := fun _ => Bool) true (fun y => Bool.rec (motive := fun _ => Bool) false (qi_le (qi_ad z.2.1 b.2.2) (qi_ad y.2.1 a.2.2)) (qi_le (qi_ad y.1 a.2.2) (qi_ad z.1 b.2.2))) (qk_nth ((0, 0, false) :: P) a.2.1)) (gi b.2.1))
    (Nat.ble a.1 1)
noncomputable def qf_pvs (gi : Nat → Option rf_GI) (P : List rf_GI) (as : List rf_AV) : List rf_AV → Bool := List.rec (motive := fun _ => List rf_AV → Bool) (fun _ => true) (fun a _ ih bs => List.rec (motive := fun _ => Bool) true (fun b bt _ => Bool.rec (motive := fun _ => Bool) false (ih bt) (qf_pv gi P a b)) bs) as
noncomputable def rf_calls0 (E : rf_EV) (L : rf_LC) (st : List rf_AV) (w : List rf_AC) (fs : List rf_FC) (nc ns RC RS pc : Nat) (sp : rf_SP) : Option (List (Nat × rf_AS)) :=
  if rf_cok E w fs sp.2.2.1 (st.take sp.2.2.1.2.1.length).reverse (rf_sm w fs sp.2.2.1 (st.take sp.2.2.1.2.1.length).reverse).1 (rf_sm w fs sp.2.2.1 (st.take sp.2.2.1.2.1.length).reverse).2 && (Nat.ble (rf_cats (st.drop sp.2.2.1.2.1.length)) 8 && (Nat.ble (nc + sp.2.1.2.2.1) RC && Nat.ble (ns + sp.2.1.2.2.2) RS)) then
    rf_posts E w fs (rf_sm w fs sp.2.2.1 (st.take sp.2.2.1.2.1.length).reverse).1 (rf_sm w fs sp.2.2.1 (st.take sp.2.2.1.2.1.length).reverse).2 (pc + 3) L (st.drop sp.2.2.1.2.1.length) (nc + sp.2.1.2.2.1) (ns + sp.2.1.2.2.2) sp.2.2.2
  else none
noncomputable def rf_calls (E : rf_EV) (L : rf_LC) (st : List rf_AV) (w : List rf_AC) (fs : List rf_FC) (nc ns RC RS pc : Nat) (sp : rf_SP) : Option (List (Nat × rf_AS)) :=
  Bool.rec (motive := fun _ => Option (List (Nat × rf_AS))) none (rf_calls0 E L st w fs nc ns RC RS pc sp) (qf_pvs (qk_gi E (qk_sf 32 E.1)) sp.2.2.1.1.1 sp.2.2.1.2.1 (st.take sp.2.2.1.2.1.length).reverse)
theorem qf_calls {E : rf_EV} {L : rf_LC} {st : List rf_AV} {w : List rf_AC} {fs : List rf_FC} {nc ns RC RS pc : Nat} {sp : rf_SP} {ss : List (Nat × rf_AS)} (h : rf_calls E L st w fs nc ns RC RS pc sp = some ss) : rf_calls0 E L st w fs nc ns RC RS pc sp = some ss := by
  unfold rf_calls at h
  revert h
  generalize qf_pvs (qk_gi E (qk_sf 32 E.1)) sp.2.2.1.1.1 sp.2.2.1.2.1 (st.take sp.2.2.1.2.1.length).reverse = t
  cases t with
  | false => intro h; cases h
  | true => exact fun h => h
section
variable {p : Program} {l : Launch} {e : Env} {R : Room} {s : State} {m : MethodId} {args : Array Value} {below : List Frame} {meth : Method} {c : Code} {Q : State → Prop}
variable {cc : ByteArray} {D : va_G} {cl : List vw_C} {tys : List (ClassId × FieldType)} {A : Nat → Prop} {H0 : Heap} {xt : Nat → Nat} {nL : Nat} {ρ0 : List Int × List Nat}
/-- a call by its contract; the run of it is what the kind of call gives -/
theorem rf_call_all {N : (Nat → Prop) → State → Prop} {G : List Cond} {pc : Nat} {E : rf_EV} {L : rf_LC} {st : List rf_AV} {w : List rf_AC} {fs : List rf_FC} {nc ns RC RS : Nat} {sp : rf_SP} {ss : List (Nat × rf_AS)} (hH : H0 = s.heap) (hK : va_K D cl tys s) (hA : ∀ q, H0.size ≤ q → A q) (hN : rf_Nok N) (hNs : N A s) (hsp : rf_OK l D cl tys xt N G sp) (hRC : RC ≤ R.cells) (hRS : RS ≤ R.slots) (hss : rf_calls E L st w fs nc ns RC RS pc sp = some ss)
    (run : ∀ (Pc : Array Value → State → Prop) (Qc : Array Value → State → Outcome → State → Prop) (free : Addr → Prop) (H : Heap) (locs : List Loc) (ls : Array Slot) (av rest : List Value) (ρc : List Int) (wc : va_W), rf_L (rf_gv ρc (wc.map Prod.fst) xt) sp.2.2.1.2.1 av → rf_L (rf_cell ρc (wc.map Prod.fst) xt tys) sp.2.2.1.2.2.1 (wc.map Prod.snd) → va_P D cl wc H → va_S A s.heap H locs → Met l sp.1.1 (rf_cw sp :: G) (rf_rm sp) Pc Qc sp.2.1.2.2.1 sp.2.1.2.2.2 free → FrameBlind Pc → (∀ U : State, U.heap = H → s.WarmedH U.vm → Pc av.toArray U) → ls.size = nL → (rest.map fun v => v.category).sum ≤ 8 → nc + sp.2.1.2.2.1 ≤ R.cells ∧ ns + sp.2.1.2.2.2 ≤ R.slots →
      va_Run p l e R s m args below meth c H locs nc ns sp.2.1.2.2.1 sp.2.1.2.2.2 (F0 m pc ls (av.reverse ++ rest)) rest (Qc av.toArray) free)
    (kk : rf_K p l e R s m args below meth c Q D cl tys A H0 xt nL ρ0 ss) : rf_G p l e R s m args below meth c Q D cl tys A H0 xt nL ρ0 pc (E, L, st, w, fs, nc, ns) := by
  subst hH
  intro ρ ad ws H locs ls stc h
  replace hss := qf_calls hss
  unfold rf_calls0 at hss
  split at hss
  next hc =>
    simp only [Bool.and_eq_true] at hc
    obtain ⟨hc1, hc2, hc3, hc4⟩ := hc
    generalize (rf_sm w fs sp.2.2.1 (st.take sp.2.2.1.2.1.length).reverse).1 = σ at hc1 hss
    generalize (rf_sm w fs sp.2.2.1 (st.take sp.2.2.1.2.1.length).reverse).2 = μ at hc1 hss
    simp only [rf_cok, Bool.and_eq_true] at hc1
    obtain ⟨⟨⟨l0, h0⟩, lz, hz⟩, hE, had, hw, ⟨hP, hD, hS, hf⟩, ⟨lv, hl1, hl2⟩, hs⟩ := h
    subst had
    have hs' : rf_L (rf_gv ρ (ws.map Prod.fst) xt) (st.take sp.2.2.1.2.1.length ++ st.drop sp.2.2.1.2.1.length) stc := by rw [List.take_append_drop]; exact hs
    obtain ⟨sa, sr, rfl, hsa, hsr⟩ := rf_L_split hs'
    obtain ⟨ρc, wc, hv, hk, hadr, hEc, hwc, hPc, hDc, hfc, hnd⟩ := rf_ms_spec (rf_msF_ms hc1.2) hE hw hP hD hf
    have hav : rf_L (rf_gv ρc (wc.map Prod.fst) xt) sp.2.2.1.2.1 sa.reverse := rf_all2_L (R := rf_gv ρ (ws.map Prod.fst) xt) (R' := rf_gv ρc (wc.map Prod.fst) xt) (fun x y z p q => rf_mv_spec hE hv hadr p q) hc1.1 (rf_L_rev hsa)
    have hFc : ∀ q, va_A wc H.size q → A q := va_free hD hS hA μ (rf_pk_map hk)
    have hM := hsp ρc wc H.size sa.reverse hEc hwc hav hfc
    have hrun := run _ _ _ H locs ls sa.reverse sr ρc wc hav hwc hPc hS hM ?_ ?_ hl1.1 (by rw [rf_cats_spec hsr]; exact Nat.le_of_ble_eq_true hc2) ⟨Nat.le_trans (Nat.le_of_ble_eq_true hc3) hRC, Nat.le_trans (Nat.le_of_ble_eq_true hc4) hRS⟩
    · rw [List.reverse_reverse] at hrun
      refine rf_call_go hrun hS hFc (fun v t H1 locs1 ht hvm hQ hkeep hS1 => ?_)
      obtain ⟨po, hpo, lx, w1, q1, ⟨l2, q2⟩, q3, q4, q5, q6, q7, q8⟩ := hQ
      obtain ⟨z, z1, z2⟩ := rf_posts_mem hss hpo
      obtain ⟨E2, w2, f2, r2, rfl, a1, a2, a3, a4, a5⟩ := rf_apply_spec hE hw hf hv hk hnd q1 q2 q3 q4 q5 z1
      rw [ht] at q6
      obtain ⟨b1, b2⟩ := rf_call_world hP hD hk q2 hkeep hFc q6 q8
      refine kk _ (z2 E2 w2 f2 r2 rfl) (ρ ++ lx) (ws.map Prod.fst ++ l2) _ H1 locs1 ls _ ⟨⟨⟨l0 ++ lx, by rw [h0, List.append_assoc]⟩, lz ++ l2, by rw [hz, List.append_assoc]⟩, a1, a2, a3, ⟨b1, b2, hS1, a4⟩, ⟨lv, hl1, rf_L_mono (fun _ _ k => ⟨k.1, rf_gv_ad (rf_gv_app k.2)⟩) hl2⟩, ?_⟩
      have hsr' : rf_L (rf_gv (ρ ++ lx) (ws.map Prod.fst ++ l2) xt) (st.drop sp.2.2.1.2.1.length) sr := rf_L_mono (fun _ _ k => rf_gv_ad (rf_gv_app k)) hsr
      cases r2 with
      | none =>
        cases v with
        | none => exact hsr'
        | some v => exact a5.elim
      | some a =>
        cases v with
        | none => exact a5.elim
        | some v => exact ⟨a5, hsr'⟩
    · intro a U g mk q
      obtain ⟨q0, q1, qP, qK, qD, qN⟩ := q
      exact ⟨q0, q1, qP, va_K.moved (u := U) (U := U.calling g mk a) (Vm.Alike.refl U.vm) qK, qD, hN.2 _ _ _ _ _ qN⟩
    · intro U hU hW
      exact ⟨rfl, by rw [hU], by rw [hU]; exact hPc, va_K.moved hW.alike hK, hDc.weaken (fun _ _ _ _ => trivial), hN.1 A _ s U H locs hNs hS hU hW hFc⟩
  next => cases hss
theorem rf_o_callS {N : (Nat → Prop) → State → Prop} {G : List Cond} {pc idx : Nat} {E : rf_EV} {L : rf_LC} {st : List rf_AV} {w : List rf_AC} {fs : List rf_FC} {nc ns RC RS : Nat} {sp : rf_SP} {ss : List (Nat × rf_AS)} (hH : H0 = s.heap) (hK : va_K D cl tys s) (hA : ∀ q, H0.size ≤ q → A q) (hN : rf_Nok N) (hNs : N A s) (hsp : rf_OK l D cl tys xt N G sp) (hRC : RC ≤ R.cells) (hRS : RS ≤ R.slots) (hss : rf_calls E L st w fs nc ns RC RS pc sp = some ss)
    (hC : rf_CS p l e R s m args below meth c cc nL G idx sp) (hd : decode cc pc = .ok (.invokestatic idx, 3)) (kk : rf_K p l e R s m args below meth c Q D cl tys A H0 xt nL ρ0 ss) : rf_G p l e R s m args below meth c Q D cl tys A H0 xt nL ρ0 pc (E, L, st, w, fs, nc, ns) :=
  rf_call_all hH hK hA hN hNs hsp hRC hRS hss (fun Pc Qc free H locs ls av rest ρc wc h1 h2 h3 hS0 hM hb hpre hl hcat hroom => hC Pc Qc free H locs nc ns ls pc av rest hM ⟨hb, hpre⟩ (rf_L_len h1).symm hl hcat hd hroom) kk
theorem rf_o_callI {N : (Nat → Prop) → State → Prop} {G : List Cond} {pc idx : Nat} {E : rf_EV} {L : rf_LC} {st : List rf_AV} {w : List rf_AC} {fs : List rf_FC} {nc ns RC RS : Nat} {sp : rf_SP} {ss : List (Nat × rf_AS)} {k0 : Nat} {d0 : Int} {as0 : List rf_AV} (hH : H0 = s.heap) (hK : va_K D cl tys s) (hA : ∀ q, H0.size ≤ q → A q) (hN : rf_Nok N) (hNs : N A s) (hsp : rf_OK l D cl tys xt N G sp) (hRC : RC ≤ R.cells) (hRS : RS ≤ R.slots) (hss : rf_calls E L st w fs nc ns RC RS pc sp = some ss)
    (hrec : sp.2.2.1.2.1 = (2, k0, d0) :: as0) (hC : rf_CI p l e R s m args below meth c cc nL G idx sp) (hd : decode cc pc = .ok (.invokespecial idx, 3)) (kk : rf_K p l e R s m args below meth c Q D cl tys A H0 xt nL ρ0 ss) : rf_G p l e R s m args below meth c Q D cl tys A H0 xt nL ρ0 pc (E, L, st, w, fs, nc, ns) := by
  refine rf_call_all hH hK hA hN hNs hsp hRC hRS hss (fun Pc Qc free H locs ls av rest ρc wc h1 h2 h3 hS0 hM hb hpre hl hcat hroom => ?_) kk
  have hlen := rf_L_len h1
  rw [hrec] at h1
  match av, h1 with
  | v :: As, h1 =>
    obtain ⟨b, b1, rfl⟩ := rf_gv_ref h1.1
    have := hC Pc Qc free H locs nc ns ls pc b As rest hM ⟨hb, hpre⟩ (by rw [hlen]; rfl) hl hcat hd hroom
    rw [List.reverse_cons, List.append_assoc]
    exact this
theorem rf_o_callV {N : (Nat → Prop) → State → Prop} {G : List Cond} {pc idx : Nat} {E : rf_EV} {L : rf_LC} {st : List rf_AV} {w : List rf_AC} {fs : List rf_FC} {nc ns RC RS : Nat} {sp : rf_SP} {ss : List (Nat × rf_AS)} {k0 ci b0 N0 : Nat} {d0 : Int} {as0 avs0 : List rf_AV} {iv0 : Int × Int} {T0 : u_T} (hH : H0 = s.heap) (hK : va_K D cl tys s) (hA : ∀ q, H0.size ≤ q → A q) (hN : rf_Nok N) (hNs : N A s) (hsp : rf_OK l D cl tys xt N G sp) (hRC : RC ≤ R.cells) (hRS : RS ≤ R.slots) (hss : rf_calls E L st w fs nc ns RC RS pc sp = some ss)
    (hrec : sp.2.2.1.2.1 = (2, k0, d0) :: as0) (hw0 : sp.2.2.1.2.2.1[k0]? = some (0, ci, b0, iv0, avs0)) (hcl : cl[ci]? = some (sp.1.1.cls, T0, N0)) (hC : rf_CV p l e R s m args below meth c cc nL G idx sp) (hd : decode cc pc = .ok (.invokevirtual idx, 3)) (kk : rf_K p l e R s m args below meth c Q D cl tys A H0 xt nL ρ0 ss) : rf_G p l e R s m args below meth c Q D cl tys A H0 xt nL ρ0 pc (E, L, st, w, fs, nc, ns) := by
  refine rf_call_all hH hK hA hN hNs hsp hRC hRS hss (fun Pc Qc free H locs ls av rest ρc wc h1 h2 h3 hS0 hM hb hpre hl hcat hroom => ?_) kk
  have hlen := rf_L_len h1
  rw [hrec] at h1
  match av, h1 with
  | v :: As, h1 =>
    obtain ⟨b, b1, rfl⟩ := rf_gv_ref h1.1
    obtain ⟨a0, e0, c1, c2, fv, rfl, -⟩ := rf_ws_at h2 rfl hw0
    rw [b1] at c2
    cases c2
    have := hC Pc Qc free H locs nc ns ls pc b As rest hM ⟨hb, va_recv hK h3 hcl c1, hpre⟩ (by rw [hlen]; rfl) hl hcat hd hroom
    rw [List.reverse_cons, List.append_assoc]
    exact this
theorem rf_o_callK {N : (Nat → Prop) → State → Prop} {G : List Cond} {pc idx : Nat} {E : rf_EV} {L : rf_LC} {st : List rf_AV} {w : List rf_AC} {fs : List rf_FC} {nc ns RC RS : Nat} {sp : rf_SP} {ss : List (Nat × rf_AS)} {k0 : Nat} {d0 : Int} {as0 : List rf_AV} (hH : H0 = s.heap) (hK : va_K D cl tys s) (hA : ∀ q, H0.size ≤ q → A q) (hN : rf_Nok N) (hNs : N A s) (hsp : rf_OK l D cl tys xt N G sp) (hRC : RC ≤ R.cells) (hRS : RS ≤ R.slots) (hss : rf_calls E L st w fs nc ns RC RS pc sp = some ss)
    (hrec : sp.2.2.1.2.1 = (4, k0, d0) :: as0) (hrv : ∀ (H : Heap) (locs : List Loc), va_S A s.heap H locs → ∃ cell : Cell, H[xt k0]? = some cell ∧ cell.vm.isStatics = false ∧ s.vm.findClass sp.1.1.cls = some cell.cls) (hC : rf_CV p l e R s m args below meth c cc nL G idx sp) (hd : decode cc pc = .ok (.invokevirtual idx, 3)) (kk : rf_K p l e R s m args below meth c Q D cl tys A H0 xt nL ρ0 ss) : rf_G p l e R s m args below meth c Q D cl tys A H0 xt nL ρ0 pc (E, L, st, w, fs, nc, ns) := by
  refine rf_call_all hH hK hA hN hNs hsp hRC hRS hss (fun Pc Qc free H locs ls av rest ρc wc h1 h2 h3 hS0 hM hb hpre hl hcat hroom => ?_) kk
  have hlen := rf_L_len h1
  rw [hrec] at h1
  match av, h1 with
  | v :: As, h1 =>
    have e1 : v = .ref (xt k0) := h1.1
    subst e1
    have := hC Pc Qc free H locs nc ns ls pc (xt k0) As rest hM ⟨hb, hrv H locs hS0, hpre⟩ (by rw [hlen]; rfl) hl hcat hd hroom
    rw [List.reverse_cons, List.append_assoc]
    exact this
end
