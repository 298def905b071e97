/-! THE CHECKER, a call -/
theorem rf_L_take {α β : Type} {R : α → β → Prop} : ∀ {as : List α} {bs : List β} (k : Nat), rf_L R as bs → rf_L R (as.take k) (bs.take k)
  | _, _, 0, _ => trivial
  | [], [], _ + 1, _ => trivial
  | _ :: _, _ :: _, k + 1, h => ⟨h.1, rf_L_take k h.2⟩
  | [], _ :: _, _ + 1, h => h.elim
  | _ :: _, [], _ + 1, h => h.elim
theorem rf_L_drop {α β : Type} {R : α → β → Prop} : ∀ {as : List α} {bs : List β} (k : Nat), rf_L R as bs → rf_L R (as.drop k) (bs.drop k)
  | _, _, 0, h => h
  | [], [], _ + 1, _ => trivial
  | _ :: _, _ :: _, k + 1, h => rf_L_drop k h.2
  | [], _ :: _, _ + 1, h => h.elim
  | _ :: _, [], _ + 1, h => h.elim
theorem rf_put_hit {α : Type} : ∀ {μ : List Nat} {vs ws : List α} {i j : Nat} {q : α}, va_nd μ = true → μ[j]? = some i → vs[j]? = some q → i < ws.length → (rf_put ws μ vs)[i]? = some q
  | [], _, _, _, _, _, _, h, _, _ => by simp at h
  | _ :: _, [], _, _, _, _, _, _, h, _ => by simp at h
  | k :: μ, v :: vs, ws, i, j, q, hn, h1, h2, hl => by
    simp only [va_nd, Bool.and_eq_true, decide_eq_true_eq] at hn
    simp only [rf_put]
    match j, h1, h2 with
    | 0, h1, h2 =>
      simp only [List.getElem?_cons_zero, Option.some.injEq] at h1 h2
      subst h1
      subst h2
      rw [rf_put_off (by
        cases hc : μ.contains k with
        | false => rfl
        | true => exact absurd (List.contains_iff_mem.mp hc) hn.1), List.getElem?_set_self hl]
    | j + 1, h1, h2 =>
      simp only [List.getElem?_cons_succ] at h1 h2
      exact rf_put_hit hn.2 h1 h2 (by rw [List.length_set]; exact hl)
def rf_rg (a n : Nat) : List Nat := (List.range n).map (fun j => a + j)
theorem rf_rg_at {a n j k : Nat} (h : (rf_rg a n)[j]? = some k) : k = a + j ∧ j < n := by
  unfold rf_rg at h
  rw [List.getElem?_map] at h
  cases hj : (List.range n)[j]? with
  | none => rw [hj] at h; cases h
  | some z =>
    rw [hj] at h
    have hl := (List.getElem?_eq_some_iff.mp hj).1
    rw [List.length_range] at hl
    rw [List.getElem?_range hl] at hj
    cases hj
    exact ⟨(Option.some.inj h).symm, hl⟩
theorem rf_rg_len {a n : Nat} : (rf_rg a n).length = n := by simp [rf_rg]
theorem rf_val_app {ρ ρc l : List Int} {σ : List (Nat × Int)} (h : rf_val ρ σ ρc) : rf_val (ρ ++ l) σ ρc := rf_L_mono (fun _ _ k => by
  obtain ⟨x, h1, h2⟩ := k
  exact ⟨x, rf_r_app h1, h2⟩) h
theorem rf_val_more {ρ ρc l : List Int} {σ : List (Nat × Int)} {a : Nat} (h : rf_val ρ σ ρc) (ha : ρ.length = a) : rf_val (ρ ++ l) (σ ++ (rf_rg (a + 1) l.length).map (fun j => (j, (0 : Int)))) (ρc ++ l) := by
  refine rf_L_app (rf_val_app h) (rf_L_of (by simp [rf_rg_len]) (fun i q r h1 h2 => ?_))
  rw [List.getElem?_map] at h1
  cases hj : (rf_rg (a + 1) l.length)[i]? with
  | none => rw [hj] at h1; cases h1
  | some z =>
    rw [hj] at h1
    cases h1
    obtain ⟨rfl, h4⟩ := rf_rg_at hj
    refine ⟨r, ?_, by dsimp only; omega⟩
    show rf_r (ρ ++ l) (a + 1 + i) = some r
    rw [show a + 1 + i = (a + i) + 1 by omega]
    show (ρ ++ l)[a + i]? = some r
    rw [List.getElem?_append_right (by omega), ha, Nat.add_sub_cancel_left]
    exact h2
theorem rf_pk_more {α : Type} {ws wc l2 : List α} {μ : List Nat} {a : Nat} (h : rf_pk ws μ wc) (ha : ws.length = a) : rf_pk (ws ++ l2) (μ ++ rf_rg a l2.length) (wc ++ l2) := by
  refine rf_L_app (rf_L_mono (fun k q hk => ?_) h) (rf_L_of (by simp [rf_rg_len]) (fun i k q h1 h2 => ?_))
  · rw [List.getElem?_append_left (List.getElem?_eq_some_iff.mp hk).1]
    exact hk
  · obtain ⟨rfl, h4⟩ := rf_rg_at h1
    rw [List.getElem?_append_right (by omega), ha, Nat.add_sub_cancel_left]
    exact h2
def rf_sr (σ : List (Nat × Int)) (μ : List Nat) : Option rf_AV → Option (Option rf_AV)
  | none => some none
  | some a => match rf_sv σ μ a with
    | some b => some (some b)
    | none => none
def qg_sr (sg : Nat → Option (Nat × Int)) (mu : Nat → Option Nat) : Option rf_AV → Option (Option rf_AV)
  | none => some none
  | some a => match qg_sv sg mu a with
    | some b => some (some b)
    | none => none
theorem qg_sr_eq (σ : List (Nat × Int)) (μ : List Nat) (o : Option rf_AV) : qg_sr (rf_sg σ) (qg_mu μ) o = rf_sr σ μ o := by
  cases o with
  | none => rfl
  | some a =>
    unfold qg_sr rf_sr
    rw [qg_sv_eq] <;> rfl
def rf_off' (μ : List Nat) (f : rf_FC) : Bool := f.2.1.all (fun c => !(μ.contains c))
def qk_off (m : Nat) (f : rf_FC) : Bool := f.2.1.all (fun c => !(Nat.testBit m c))
theorem qk_off_eq (μ : List Nat) : qk_off (qk_mask μ) = rf_off' μ := by
  funext f
  unfold qk_off rf_off'
  simp only [qk_mask_eq]
/-- the state behind a call by one of the callee's ends: none: it can't be told; some none: it can't be -/
noncomputable def rf_apply4 (w : List rf_AC) (fs : List rf_FC) (μ : List Nat) (po : rf_PO) (E2 : rf_EV) (sg : Nat → Option (Nat × Int)) (mu : Nat → Option Nat) (cs : List rf_AC) : Option (Option (rf_EV × List rf_AC × List rf_FC × Option rf_AV)) :=
  match qk_om (qg_sf sg mu) po.2.2.2, qg_sr sg mu po.2.1 with
  | some gs, some r => some (some (E2, qf_ap (qk_put w μ (cs.take μ.length)) (cs.drop μ.length), gs ++ fs.filter (qk_off (qk_mask μ)), r))
  | _, _ => none
noncomputable def rf_apply3 (w : List rf_AC) (fs : List rf_FC) (μ : List Nat) (po : rf_PO) (E2 : rf_EV) (σ2 : List (Nat × Int)) (μ2 : List Nat) : Option (Option (rf_EV × List rf_AC × List rf_FC × Option rf_AV)) :=
  qf_scs ((0, 0) :: σ2) (qk_sf 32 ((0, 0) :: σ2)) μ2 (qk_sf 32 μ2) none po.2.2.1 1 σ2 0 μ2 (rf_apply4 w fs μ po E2 (qk_sg σ2 (qk_sf 32 σ2)) (qk_at μ2 (qk_sf 32 μ2)))
noncomputable def rf_apply2 (w : List rf_AC) (fs : List rf_FC) (μ : List Nat) (po : rf_PO) (E1 : rf_EV) (σ2 : List (Nat × Int)) (μ2 : List Nat) : Option (Option (rf_EV × List rf_AC × List rf_FC × Option rf_AV)) :=
  match rf_adds σ2 E1 po.1.2 with
  | none => none
  | some none => some none
  | some (some E2) => rf_apply3 w fs μ po E2 σ2 μ2
noncomputable def rf_apply (E : rf_EV) (w : List rf_AC) (fs : List rf_FC) (σ : List (Nat × Int)) (μ : List Nat) (po : rf_PO) : Option (Option (rf_EV × List rf_AC × List rf_FC × Option rf_AV)) :=
  match qf_cuts ((0, 0, false) :: E.1) (qk_sf 32 ((0, 0, false) :: E.1)) σ (po.1.1.take σ.length) 1 E.1 E with
  | none => some none
  | some E1 => rf_apply2 w fs μ po (qf_ap E1.1 (po.1.1.drop σ.length), E1.2) (qf_ap σ ((rf_rg (E.1.length + 1) (po.1.1.length - σ.length)).map (fun j => (j, (0 : Int))))) (qf_ap μ (rf_rg w.length (po.2.2.1.length - μ.length)))
theorem rf_apply_spec {ρ ρc l : List Int} {xt : Nat → Nat} {tys : List (ClassId × FieldType)} {E : rf_EV} {w : List rf_AC} {fs : List rf_FC} {σ : List (Nat × Int)} {μ : List Nat} {po : rf_PO} {ws wc w1 : va_W} {l2 : List Nat} {v : Option Value} {z : Option (rf_EV × List rf_AC × List rf_FC × Option rf_AV)}
    (hE : rf_okE ρ E) (hw : rf_L (rf_cell ρ (ws.map Prod.fst) xt tys) w (ws.map Prod.snd)) (hf : rf_facts xt ρ (ws.map Prod.snd) fs) (hv : rf_val ρ σ ρc) (hk : rf_pk ws μ wc) (hnd : va_nd μ = true)
    (q1 : rf_okE (ρc ++ l) po.1) (q2 : w1.map Prod.fst = wc.map Prod.fst ++ l2) (q3 : rf_L (rf_cell (ρc ++ l) (w1.map Prod.fst) xt tys) po.2.2.1 (w1.map Prod.snd)) (q4 : rf_ret (ρc ++ l) (w1.map Prod.fst) xt po.2.1 v) (q5 : rf_facts xt (ρc ++ l) (w1.map Prod.snd) po.2.2.2) (h : rf_apply E w fs σ μ po = some z) :
    ∃ E2 w2 f2 r2, z = some (E2, w2, f2, r2) ∧ rf_okE (ρ ++ l) E2 ∧ (rf_put ws μ (w1.take μ.length) ++ w1.drop μ.length).map Prod.fst = ws.map Prod.fst ++ l2 ∧ rf_L (rf_cell (ρ ++ l) (ws.map Prod.fst ++ l2) xt tys) w2 ((rf_put ws μ (w1.take μ.length) ++ w1.drop μ.length).map Prod.snd) ∧ rf_facts xt (ρ ++ l) ((rf_put ws μ (w1.take μ.length) ++ w1.drop μ.length).map Prod.snd) f2 ∧ rf_ret (ρ ++ l) (ws.map Prod.fst ++ l2) xt r2 v := by
  have hσl : σ.length = ρc.length := rf_L_len hv
  have hμl : μ.length = wc.length := rf_L_len hk
  have hwl : w.length = ws.length := by rw [rf_L_len hw, List.length_map]
  have hρl : ρ.length = E.1.length := hE.2.1
  have hpl : (ρc ++ l).length = po.1.1.length := q1.2.1
  have hll : po.1.1.length - σ.length = l.length := by rw [← hpl, List.length_append, hσl]; omega
  have hw1 : w1.length = wc.length + l2.length := by
    have := congrArg List.length q2
    simpa using this
  have hpw : po.2.2.1.length = w1.length := by rw [rf_L_len q3, List.length_map]
  have hkl : po.2.2.1.length - μ.length = l2.length := by omega
  have hfst1 : (w1.take μ.length).map Prod.fst = wc.map Prod.fst := by
    rw [List.map_take, q2, hμl, List.take_append_of_le_length (by simp), List.take_of_length_le (by simp)]
  have hfst2 : (w1.drop μ.length).map Prod.fst = l2 := by
    rw [List.map_drop, q2, hμl, List.drop_append_of_le_length (by simp), List.drop_of_length_le (by simp), List.nil_append]
  have hfst : (rf_put ws μ (w1.take μ.length) ++ w1.drop μ.length).map Prod.fst = ws.map Prod.fst ++ l2 := by
    rw [List.map_append, rf_put_map, hfst1, hfst2, rf_put_same (rf_pk_img hk)]
  -- the ghosts
  have hvm : rf_val (ρ ++ l) (σ ++ (rf_rg (E.1.length + 1) (po.1.1.length - σ.length)).map (fun j => (j, (0 : Int)))) (ρc ++ l) := by
    rw [hll]
    exact rf_val_more hv hρl
  have had : rf_adr (ws.map Prod.fst ++ l2) (μ ++ rf_rg w.length (po.2.2.1.length - μ.length)) (w1.map Prod.fst) := by
    rw [q2, hkl]
    exact rf_pk_more (rf_pk_img hk) (by rw [List.length_map, hwl])
  have hsnd : (rf_put ws μ (w1.take μ.length) ++ w1.drop μ.length).map Prod.snd = rf_put (ws.map Prod.snd) μ ((w1.map Prod.snd).take μ.length) ++ (w1.map Prod.snd).drop μ.length := by
    rw [List.map_append, rf_put_map, List.map_take, List.map_drop]
  have hpk : rf_pk ((rf_put ws μ (w1.take μ.length) ++ w1.drop μ.length).map Prod.snd) (μ ++ rf_rg w.length (po.2.2.1.length - μ.length)) (w1.map Prod.snd) := by
    rw [hsnd]
    have e : w1.map Prod.snd = (w1.map Prod.snd).take μ.length ++ (w1.map Prod.snd).drop μ.length := (List.take_append_drop _ _).symm
    have hd : ((w1.map Prod.snd).drop μ.length).length = l2.length := by
      rw [List.length_drop, List.length_map]; omega
    have key : rf_pk (rf_put (ws.map Prod.snd) μ ((w1.map Prod.snd).take μ.length) ++ (w1.map Prod.snd).drop μ.length) (μ ++ rf_rg w.length (po.2.2.1.length - μ.length)) ((w1.map Prod.snd).take μ.length ++ (w1.map Prod.snd).drop μ.length) := by
      rw [hkl, ← hd]
      refine rf_pk_more (rf_L_of (by rw [List.length_take, List.length_map]; omega) (fun i k q h1 h2 => ?_)) (by rw [rf_put_len, List.length_map, hwl])
      refine rf_put_hit hnd h1 h2 ?_
      obtain ⟨x, x1, x2⟩ := rf_L_get hk h1
      rw [List.length_map]
      exact (List.getElem?_eq_some_iff.mp x2).1
    rw [← e] at key
    exact key
  unfold rf_apply at h
  obtain ⟨E1, c1, c2, c3⟩ := qf_cuts_spec (l := (0, 0, false) :: E.1) (S := qk_sf 32 ((0, 0, false) :: E.1)) (c := 1) (s := E.1) (bs := po.1.1.take σ.length) hE hv (fun i b hi => by
    have hil : i < σ.length := by
      have := (List.getElem?_eq_some_iff.mp hi).1
      rw [List.length_take] at this
      omega
    rw [List.getElem?_take_of_lt hil] at hi
    obtain ⟨r, r1, r2⟩ := q1.1 i b hi
    rw [List.getElem?_append_left (by omega)] at r1
    exact ⟨r, r1, r2⟩)
  rw [c1] at h
  dsimp only at h
  rw [qf_ap_eq, qf_ap_eq, qf_ap_eq] at h
  have hE1 : rf_okE (ρ ++ l) (E1.1 ++ po.1.1.drop σ.length, E1.2) := rf_okE_news c2 (by rw [List.length_drop, hll]) (fun i b hi => by
    rw [List.getElem?_drop] at hi
    obtain ⟨r, r1, r2⟩ := q1.1 _ b hi
    rw [List.getElem?_append_right (by omega), hσl, Nat.add_sub_cancel_left] at r1
    exact ⟨r, r1, r2⟩)
  unfold rf_apply2 at h
  split at h
  next => cases h
  next ha =>
    obtain ⟨E', e1, -⟩ := rf_adds_spec hvm hE1 q1.2.2 ha
    cases e1
  next E2 ha =>
    obtain ⟨E', e1, e2⟩ := rf_adds_spec hvm hE1 q1.2.2 ha
    cases e1
    unfold rf_apply3 at h
    have h9 := (qf_scs_eq (f1 := 32) (f2 := 32) (z := (none : Option (Option (rf_EV × List rf_AC × List rf_FC × Option rf_AV)))) (as := po.2.2.1) (c := 1) (m := 0) rfl rfl (rf_apply4 w fs μ po E2 (qk_sg (σ ++ (rf_rg (E.1.length + 1) (po.1.1.length - σ.length)).map (fun j => (j, (0 : Int)))) (qk_sf 32 (σ ++ (rf_rg (E.1.length + 1) (po.1.1.length - σ.length)).map (fun j => (j, (0 : Int)))))) (qk_at (μ ++ rf_rg w.length (po.2.2.1.length - μ.length)) (qk_sf 32 (μ ++ rf_rg w.length (po.2.2.1.length - μ.length)))))).symm.trans h
    split at h9
    next cs hcs =>
      unfold rf_apply4 at h9
      split at h9
      next gs r hgs hr =>
        cases h9
        rw [qk_sg_eq, qk_mu_eq, qg_sf_eq, qk_om_eq] at hgs
        rw [qk_sg_eq, qk_mu_eq, qg_sr_eq] at hr
        rw [qf_ap_eq, qk_put_eq hnd, qk_off_eq]
        have hcs' : rf_L (rf_cell (ρ ++ l) (ws.map Prod.fst ++ l2) xt tys) cs (w1.map Prod.snd) := rf_om_L (R := rf_cell (ρc ++ l) (w1.map Prod.fst) xt tys) (R' := rf_cell (ρ ++ l) (ws.map Prod.fst ++ l2) xt tys) (fun a b c p q => rf_sc_spec hvm had p q) hcs q3
        refine ⟨_, _, _, _, rfl, e2, hfst, ?_, ?_, ?_⟩
        · rw [hsnd]
          refine rf_L_app (rf_put_L (rf_L_mono (fun a b k => rf_cell_mono (fun a v z => rf_gv_ad (rf_gv_app z)) k) hw) (rf_L_take _ hcs')) (rf_L_drop _ hcs')
        · intro f hf'
          rcases List.mem_append.mp hf' with hf' | hf'
          · obtain ⟨i, hi⟩ := List.getElem?_of_mem hf'
            obtain ⟨g, g1, g2⟩ := (rf_om_at hgs).2 i f hi
            exact rf_sf_spec hvm hpk g2 (q5 g (List.mem_of_getElem? g1))
          · obtain ⟨g1, g2⟩ := List.mem_filter.mp hf'
            obtain ⟨xs, x1, x2⟩ := hf f g1
            refine ⟨xs, rf_L_mono (fun _ _ k => rf_num_app k) x1, ?_⟩
            have e : f.2.1.map (fun k => ((rf_put ws μ (w1.take μ.length) ++ w1.drop μ.length).map Prod.snd)[k]?) = f.2.1.map (fun k => (ws.map Prod.snd)[k]?) := by
              apply List.map_congr_left
              intro k hk'
              obtain ⟨e0, he⟩ := rf_XP_some x2 ((ws.map Prod.snd)[k]?) (List.mem_map.mpr ⟨k, hk', rfl⟩)
              have hnc : μ.contains k = false := by
                have := List.all_eq_true.mp g2 k hk'
                simpa using this
              rw [hsnd, List.getElem?_append_left (by rw [rf_put_len]; exact (List.getElem?_eq_some_iff.mp he).1), rf_put_off hnc]
            rw [e]
            exact x2
        · revert hr q4
          cases po.2.1 with
          | none =>
            intro q4 hr
            cases hr
            cases v with
            | none => trivial
            | some v => exact q4.elim
          | some a =>
            intro q4 hr
            simp only [rf_sr] at hr
            split at hr
            next b hb =>
              cases hr
              cases v with
              | none => exact q4.elim
              | some v => exact rf_sv_spec hvm had hb q4
            next => cases hr
      next => cases h9
    next => cases h9
/-- the machine's side of the same -/
theorem rf_call_world {D : va_G} {cl : List vw_C} {A : Nat → Prop} {H H1 : Heap} {ws wc w1 : va_W} {μ : List Nat} {l2 : List Nat} (hP : va_P D cl ws H) (hD : va_D A ws) (hk : rf_pk ws μ wc) (q2 : w1.map Prod.fst = wc.map Prod.fst ++ l2) (hkeep : ∀ q : Nat, q < H.size → ¬ va_A wc H.size q → H1[q]? = H[q]?) (hF : ∀ q, va_A wc H.size q → A q) (hP1 : va_P D cl w1 H1) (hD1 : va_D (va_A wc H.size) w1) :
    va_P D cl (rf_put ws μ (w1.take μ.length) ++ w1.drop μ.length) H1 ∧ va_D A (rf_put ws μ (w1.take μ.length) ++ w1.drop μ.length) := by
  have hμl : μ.length = wc.length := rf_L_len hk
  have hw1 : w1.length = wc.length + l2.length := by
    have := congrArg List.length q2
    simpa using this
  have hfst1 : (w1.take μ.length).map Prod.fst = wc.map Prod.fst := by
    rw [List.map_take, q2, hμl, List.take_append_of_le_length (by simp), List.take_of_length_le (by simp)]
  have hfstP : (rf_put ws μ (w1.take μ.length)).map Prod.fst = ws.map Prod.fst := by
    rw [rf_put_map, hfst1, rf_put_same (rf_pk_img hk)]
  have fstAt : ∀ (i : Nat) (x : Nat × va_E), (rf_put ws μ (w1.take μ.length))[i]? = some x → ∃ y, ws[i]? = some y ∧ y.1 = x.1 := by
    intro i x hx
    have h1 : ((rf_put ws μ (w1.take μ.length)).map Prod.fst)[i]? = some x.1 := by rw [List.getElem?_map, hx]; rfl
    rw [hfstP, List.getElem?_map] at h1
    cases hy : ws[i]? with
    | none => rw [hy] at h1; cases h1
    | some y =>
      rw [hy] at h1
      exact ⟨y, rfl, Option.some.inj h1⟩
  have c1At : ∀ (j : Nat) (y : Nat × va_E), wc[j]? = some y → ∃ x, w1[j]? = some x ∧ x.1 = y.1 := by
    intro j y hy
    have hjl := (List.getElem?_eq_some_iff.mp hy).1
    have h1 : (w1.map Prod.fst)[j]? = some y.1 := by
      rw [q2, List.getElem?_append_left (by rw [List.length_map]; exact hjl), List.getElem?_map, hy]; rfl
    rw [List.getElem?_map] at h1
    cases hx : w1[j]? with
    | none => rw [hx] at h1; cases h1
    | some x =>
      rw [hx] at h1
      exact ⟨x, rfl, Option.some.inj h1⟩
  have dropAt : ∀ (j : Nat) (y : Nat × va_E), (w1.drop μ.length)[j]? = some y → w1[μ.length + j]? = some y := by
    intro j y hy
    rw [List.getElem?_drop] at hy
    exact hy
  have hPd : va_P D cl (w1.drop μ.length) H1 := fun j y hy => hP1 _ y (dropAt j y hy)
  refine ⟨va_P.app (fun i x hx => ?_) hPd, va_D.app ⟨fun i j x y hx hy hxy => ?_, fun i x hx => ?_⟩ ⟨fun i j x y hx hy hxy => ?_, fun j y hy => hF _ (hD1.2 _ y (dropAt j y hy))⟩ (fun i j x y hx hy hxy => ?_)⟩
  · rcases rf_put_at hx with ⟨j, j1, j2⟩ | ⟨h1, h2⟩
    · have hjt : w1[j]? = some x := by
        rw [List.getElem?_take] at j2
        split at j2
        · exact j2
        · cases j2
      exact hP1 j x hjt
    · have hlt := (hP i x h1).lt
      refine (hP i x h1).kept (hkeep x.1 hlt (fun hA => ?_))
      rcases hA with ⟨j, e0, hj⟩ | hA
      · have hjm : j < μ.length := by rw [hμl]; exact (List.getElem?_eq_some_iff.mp hj).1
        have hm : μ[j]? = some μ[j] := List.getElem?_eq_getElem hjm
        obtain ⟨y, y1, y2⟩ := rf_L_get hk hm
        rw [hj] at y1
        cases y1
        have hij := hD.1 i _ x (x.1, e0) h1 y2 rfl
        refine h2 j ?_ (by rw [hm, hij])
        rw [List.length_take]
        omega
      · omega
  · obtain ⟨x', x1, x2⟩ := fstAt i x hx
    obtain ⟨y', y1, y2⟩ := fstAt j y hy
    exact hD.1 i j x' y' x1 y1 (x2.trans (hxy.trans y2.symm))
  · obtain ⟨x', x1, x2⟩ := fstAt i x hx
    rw [← x2]
    exact hD.2 i x' x1
  · have := hD1.1 _ _ x y (dropAt i x hx) (dropAt j y hy) hxy
    omega
  · obtain ⟨x', x1, x2⟩ := fstAt i x hx
    have hlt := (hP i x' x1).lt
    have hy1 := hD1.2 _ y (dropAt j y hy)
    rcases hy1 with ⟨k, e0, hk0⟩ | hy1
    · obtain ⟨z, z1, z2⟩ := c1At k _ hk0
      have hkl := (List.getElem?_eq_some_iff.mp hk0).1
      have := hD1.1 k (μ.length + j) z y z1 (dropAt j y hy) z2
      omega
    · omega
