/-! THE CHECKER, a walk: cuts with what holds there, measures that fall, answers -/
def rf_idn (σ : List (Nat × Int)) (n : Nat) : Bool := rf_all2 (fun q i => Nat.beq q.1 (i + 1) && decide (q.2 = 0)) (σ.take n) (List.range n)
def rf_idm (μ : List Nat) (k : Nat) : Bool := rf_all2 Nat.beq (μ.take k) (List.range k)
theorem rf_idn_spec {ρp l ρ' : List Int} {σ : List (Nat × Int)} (hv : rf_val (ρp ++ l) σ ρ') (h : rf_idn σ ρp.length = true) : ∃ l', ρ' = ρp ++ l' := by
  obtain ⟨hl, ha⟩ := rf_all2_at h
  rw [List.length_take, List.length_range] at hl
  have hlen := rf_L_len hv
  refine ⟨ρ'.drop ρp.length, ?_⟩
  have e : ρ'.take ρp.length = ρp := by
    apply List.ext_getElem?
    intro i
    by_cases hi : i < ρp.length
    · rw [List.getElem?_take_of_lt hi]
      have hq : (σ.take ρp.length)[i]? = some σ[i] := by rw [List.getElem?_take_of_lt hi]; exact List.getElem?_eq_getElem (by omega)
      obtain ⟨j, j1, j2⟩ := ha i _ hq
      rw [List.getElem?_range hi] at j1
      cases j1
      simp only [Bool.and_eq_true, decide_eq_true_eq] at j2
      obtain ⟨r, r1, x, x1, x2⟩ := rf_L_get hv (List.getElem?_eq_getElem (show i < σ.length by omega))
      rw [Nat.eq_of_beq_eq_true j2.1] at x1
      have x1' : (ρp ++ l)[i]? = some x := x1
      rw [List.getElem?_append_left hi] at x1'
      rw [r1, x1', x2, j2.2, Int.add_zero]
    · rw [List.getElem?_eq_none (by rw [List.length_take]; omega), List.getElem?_eq_none (by omega)]
  have t := List.take_append_drop ρp.length ρ'
  rw [e] at t
  exact t.symm
theorem rf_idm_spec {ap l ad' : List Nat} {μ : List Nat} (hv : rf_adr (ap ++ l) μ ad') (h : rf_idm μ ap.length = true) : ∃ l', ad' = ap ++ l' := by
  obtain ⟨hl, ha⟩ := rf_all2_at h
  rw [List.length_take, List.length_range] at hl
  have hlen := rf_L_len hv
  refine ⟨ad'.drop ap.length, ?_⟩
  have e : ad'.take ap.length = ap := by
    apply List.ext_getElem?
    intro i
    by_cases hi : i < ap.length
    · rw [List.getElem?_take_of_lt hi]
      have hq : (μ.take ap.length)[i]? = some μ[i] := by rw [List.getElem?_take_of_lt hi]; exact List.getElem?_eq_getElem (by omega)
      obtain ⟨j, j1, j2⟩ := ha i _ hq
      rw [List.getElem?_range hi] at j1
      cases j1
      obtain ⟨r, r1, x1⟩ := rf_L_get hv (List.getElem?_eq_getElem (show i < μ.length by omega))
      rw [Nat.eq_of_beq_eq_true j2, List.getElem?_append_left hi] at x1
      rw [r1, x1]
    · rw [List.getElem?_eq_none (by rw [List.length_take]; omega), List.getElem?_eq_none (by omega)]
  have t := List.take_append_drop ap.length ad'
  rw [e] at t
  exact t.symm
/-! measures -/
abbrev rf_M : Type := List (Int × Nat × Int)
def rf_mval (ρ : List Int) (ms : rf_M) (vs : List Nat) : Prop := rf_L (fun c n => ∃ r, rf_r ρ c.2.1 = some r ∧ ((n : Nat) : Int) = c.1 * r + c.2.2) ms vs
def rf_lex : List Nat → List Nat → Prop
  | a :: as, b :: bs => a < b ∨ (a ≤ b ∧ rf_lex as bs)
  | _, _ => False
theorem rf_lex_ind : ∀ (n : Nat) (P : List Nat → Prop), (∀ v, v.length = n → (∀ v', v'.length = n → rf_lex v' v → P v') → P v) → ∀ v, v.length = n → P v
  | 0, P, h, v, hv => h v hv (fun v' hv' hl => by
    match v', hv', v, hv with
    | [], _, [], _ => exact hl.elim)
  | n + 1, P, h, v, hv => by
    match v, hv with
    | a :: as, hv =>
      have key : ∀ (a : Nat) (as : List Nat), as.length = n → P (a :: as) := by
        intro a
        induction a using Nat.strongRecOn with
        | ind a ih =>
          intro as has
          refine rf_lex_ind n (fun as => P (a :: as)) (fun as has' ih2 => ?_) as has
          refine h (a :: as) (by simp [has']) (fun v' hv' hl => ?_)
          match v', hv', hl with
          | b :: bs, hv', hl =>
            have hbs : bs.length = n := by simpa using hv'
            rcases hl with hl | ⟨hl1, hl2⟩
            · exact ih b hl bs hbs
            · rcases Nat.lt_or_eq_of_le hl1 with hlt | heq
              · exact ih b hlt bs hbs
              · subst heq
                exact ih2 bs hbs hl2
      exact key a as (by simpa using hv)
def rf_mlt1 (E : rf_EV) (a b : Int × Nat × Int) : Bool := if a.1 = 1 ∧ b.1 = 1 then rf_leq E (0, a.2.1, a.2.2 + 1) (0, b.2.1, b.2.2) else if a.1 = -1 ∧ b.1 = -1 then rf_leq E (0, b.2.1, a.2.2 + 1 - b.2.2) (0, a.2.1, 0) else if a.1 = 0 ∧ b.1 = 0 then decide (a.2.2 < b.2.2) else false
def rf_mle1 (E : rf_EV) (a b : Int × Nat × Int) : Bool := if a.1 = 1 ∧ b.1 = 1 then rf_leq E (0, a.2.1, a.2.2) (0, b.2.1, b.2.2) else if a.1 = -1 ∧ b.1 = -1 then rf_leq E (0, b.2.1, a.2.2 - b.2.2) (0, a.2.1, 0) else if a.1 = 0 ∧ b.1 = 0 then decide (a.2.2 ≤ b.2.2) else false
def rf_mlex (E : rf_EV) : rf_M → rf_M → Bool
  | a :: as, b :: bs => rf_mlt1 E a b || (rf_mle1 E a b && rf_mlex E as bs)
  | _, _ => false
theorem rf_mlex_spec {ρ : List Int} {E : rf_EV} (hE : rf_okE ρ E) : ∀ {as bs : rf_M} {vs ws : List Nat}, rf_mval ρ as vs → rf_mval ρ bs ws → rf_mlex E as bs = true → rf_lex vs ws
  | [], _, _, _, _, _, h => by simp [rf_mlex] at h
  | _ :: _, [], _, _, _, _, h => by simp [rf_mlex] at h
  | _ :: _, _ :: _, [], _, h1, _, _ => h1.elim
  | _ :: _, _ :: _, _ :: _, [], _, h2, _ => h2.elim
  | a :: as, b :: bs, v :: vs, w :: ws, h1, h2, h => by
    simp only [rf_mlex, Bool.or_eq_true, Bool.and_eq_true] at h
    obtain ⟨r, r1, r2⟩ := h1.1
    obtain ⟨q, q1, q2⟩ := h2.1
    rcases h with h | ⟨h, h'⟩
    · refine Or.inl ?_
      unfold rf_mlt1 at h
      split at h
      next hc =>
        have := rf_leq_spec hE (a := (0, a.2.1, a.2.2 + 1)) (b := (0, b.2.1, b.2.2)) ⟨r, r1, rfl⟩ ⟨q, q1, rfl⟩ h
        rw [hc.1] at r2
        rw [hc.2] at q2
        dsimp only at this
        omega
      next =>
        split at h
        next hc =>
          have := rf_leq_spec hE (a := (0, b.2.1, a.2.2 + 1 - b.2.2)) (b := (0, a.2.1, 0)) ⟨q, q1, rfl⟩ ⟨r, r1, rfl⟩ h
          rw [hc.1] at r2
          rw [hc.2] at q2
          dsimp only at this
          omega
        next =>
          split at h
          next hc =>
            have := of_decide_eq_true h
            rw [hc.1] at r2
            rw [hc.2] at q2
            omega
          next => cases h
    · refine Or.inr ⟨?_, rf_mlex_spec hE h1.2 h2.2 h'⟩
      unfold rf_mle1 at h
      split at h
      next hc =>
        have := rf_leq_spec hE (a := (0, a.2.1, a.2.2)) (b := (0, b.2.1, b.2.2)) ⟨r, r1, rfl⟩ ⟨q, q1, rfl⟩ h
        rw [hc.1] at r2
        rw [hc.2] at q2
        dsimp only at this
        omega
      next =>
        split at h
        next hc =>
          have := rf_leq_spec hE (a := (0, b.2.1, a.2.2 - b.2.2)) (b := (0, a.2.1, 0)) ⟨q, q1, rfl⟩ ⟨r, r1, rfl⟩ h
          rw [hc.1] at r2
          rw [hc.2] at q2
          dsimp only at this
          omega
        next =>
          split at h
          next hc =>
            have := of_decide_eq_true h
            rw [hc.1] at r2
            rw [hc.2] at q2
            omega
          next => cases h
def rf_mnn (E : rf_EV) (ms : rf_M) : Bool := ms.all (fun c => match rf_gi E c.2.1 with
  | some q => if c.1 = 1 then decide (0 ≤ q.1 + c.2.2) else if c.1 = -1 then decide (q.2.1 ≤ c.2.2) else if c.1 = 0 then decide (0 ≤ c.2.2) else false
  | none => false)
theorem rf_mnn_spec {ρ : List Int} {E : rf_EV} (hE : rf_okE ρ E) : ∀ {ms : rf_M}, rf_mnn E ms = true → ∃ vs, rf_mval ρ ms vs
  | [], _ => ⟨[], trivial⟩
  | c :: ms, h => by
    simp only [rf_mnn, List.all_cons, Bool.and_eq_true] at h
    obtain ⟨vs, hvs⟩ := rf_mnn_spec hE (ms := ms) h.2
    have h1 := h.1
    split at h1
    next q hq =>
      obtain ⟨r, r1, r2, r3, -⟩ := rf_gi_spec hE hq
      have key : 0 ≤ c.1 * r + c.2.2 := by
        split at h1
        next hc => rw [hc]; have := of_decide_eq_true h1; omega
        next =>
          split at h1
          next hc => rw [hc]; have := of_decide_eq_true h1; omega
          next =>
            split at h1
            next hc => rw [hc]; have := of_decide_eq_true h1; omega
            next => cases h1
      exact ⟨(c.1 * r + c.2.2).toNat :: vs, ⟨r, r1, by omega⟩, hvs⟩
    next => cases h1
def rf_msub (σ : List (Nat × Int)) : rf_M → Option rf_M := rf_om (fun c => match rf_sg σ c.2.1 with
  | some q => some (c.1, q.1, c.2.2 + c.1 * q.2)
  | none => none)
theorem rf_msub_spec {ρ ρ' : List Int} {σ : List (Nat × Int)} (hσ : rf_val ρ σ ρ') {ms ms' : rf_M} {vs : List Nat} (h : rf_msub σ ms = some ms') (hv : rf_mval ρ' ms vs) : rf_mval ρ ms' vs := by
  refine rf_om_L (R := fun (c : Int × Nat × Int) (n : Nat) => ∃ r, rf_r ρ' c.2.1 = some r ∧ ((n : Nat) : Int) = c.1 * r + c.2.2) (R' := fun (c : Int × Nat × Int) (n : Nat) => ∃ r, rf_r ρ c.2.1 = some r ∧ ((n : Nat) : Int) = c.1 * r + c.2.2) (fun a b n p q => ?_) h hv
  split at p
  next z hz =>
    cases p
    obtain ⟨x, x1, x2⟩ := rf_val_at hσ hz
    obtain ⟨r, r1, r2⟩ := q
    rw [x2] at r1
    cases r1
    refine ⟨x, x1, ?_⟩
    dsimp only
    rw [r2, Int.mul_add]
    omega
  next => cases p
theorem rf_mval_app {ρ l : List Int} {ms : rf_M} {vs : List Nat} (h : rf_mval ρ ms vs) : rf_mval (ρ ++ l) ms vs := rf_L_mono (fun _ _ k => by
  obtain ⟨r, h1, h2⟩ := k
  exact ⟨r, rf_r_app h1, h2⟩) h
/-! cuts: place, picture, measure, pictures one of which then holds -/
abbrev rf_CUT : Type := Nat × rf_AS × rf_M × List rf_AS
def rf_ini (n k ng nk : Nat) : rf_FI := ((List.range n).map (fun i => some (i + 1, (0 : Int))) ++ List.replicate (ng - n) none, (List.range k).map some ++ List.replicate (nk - k) none)
def rf_lvs (L : rf_LC) (P : rf_LC) : List rf_AV := P.map (fun q => (rf_lget L q.1).getD (9, 0, 0))
noncomputable def rf_smc (n k : Nat) (P S : rf_AS) : List (Nat × Int) × List Nat := qj_fin n k P.1 P.2.2.2.1 P.2.2.2.2.1 S.2.2.2.1 S.2.2.2.2.1 (qj_app (P.2.1.map Prod.snd) P.2.2.1) (qj_app (rf_lvs S.2.1 P.2.1) S.2.2.1) [] []
def rf_ml1 (E : rf_EV) (σ : List (Nat × Int)) (μ : List Nat) (L : rf_LC) (q : Nat × rf_AV) : Bool := match rf_lget L q.1 with
  | some b => rf_mv E σ μ q.2 b
  | none => false
noncomputable def rf_fitc (n k : Nat) (P S : rf_AS) (σ : List (Nat × Int)) (μ : List Nat) : Bool := rf_msF S.1 σ μ S.2.2.2.1 S.2.2.2.2.1 P.1 P.2.2.2.1 P.2.2.2.2.1 && (rf_all2 (rf_mv S.1 σ μ) P.2.2.1 S.2.2.1 && (P.2.1.all (rf_ml1 S.1 σ μ S.2.1) && (Nat.beq S.2.2.2.2.2.1 P.2.2.2.2.2.1 && (Nat.beq S.2.2.2.2.2.2 P.2.2.2.2.2.2 && (rf_idn σ n && rf_idm μ k)))))
/-! a picture's key: a number of what its values' bounds are; a cut may ask for one (it only chooses) -/
noncomputable def qz_r (gi : Nat → Option rf_GI) (a : rf_AV) (h : Nat) : Nat := Option.rec (motive := fun _ => Nat) (Nat.mod (Nat.add (Nat.mul h 31) 7) 2305843009213693951) (fun q => Nat.mod (Nat.add (Nat.mul (Nat.add (Nat.mul h 31) (Int.toNat (q.1 + a.2.2 + 1099511627776))) 31) (Int.toNat (q.2.1 + a.2.2 + 1099511627776))) 2305843009213693951) (gi a.2.1)
noncomputable def qz_v (gi : Nat → Option rf_GI) (a : rf_AV) (h : Nat) : Nat := bif Nat.ble a.1 1 then qz_r gi a h else Nat.add (Nat.mul h 31) (Nat.add a.1 3)
noncomputable def qz_L (gi : Nat → Option rf_GI) (L : rf_LC) : Nat → Nat := List.rec (motive := fun _ => Nat → Nat) (fun h => h) (fun q _ ih h => ih (qz_v gi q.2 h)) L
noncomputable def qz_S (gi : Nat → Option rf_GI) (st : List rf_AV) : Nat → Nat := List.rec (motive := fun _ => Nat → Nat) (fun h => h) (fun a _ ih h => ih (qz_v gi a h)) st
noncomputable def qz_F (gi : Nat → Option rf_GI) (fs : List rf_FC) : Nat → Nat := List.rec (motive := fun _ => Nat → Nat) (fun h => h) (fun f _ ih h => bif Nat.beq f.1 19 || Nat.beq f.1 36 then ih (List.rec (motive := fun _ => Nat) h (fun _ r _ => List.rec (motive := fun _ => Nat) h (fun v _ _ => qz_v gi v h) r) f.2.2) else ih h) fs
noncomputable def qz_l {α : Type} (l : List α) : Nat := List.rec (motive := fun _ => Nat) 0 (fun _ _ ih => Nat.add ih 1) l
noncomputable def qz_g (gi : Nat → Option rf_GI) (S : rf_AS) : Nat := qz_F gi S.2.2.2.2.1 (qz_S gi S.2.2.1 (qz_L gi S.2.1 (qz_l S.1.2)))
noncomputable def qz_k (S : rf_AS) : Nat := qz_g (qk_gi S.1 (qk_sf 32 S.1.1)) S
noncomputable def qz_a (as : List rf_AV) (k : Nat) : Bool := List.rec (motive := fun _ => Bool) true (fun a _ _ => Nat.beq (Int.toNat a.2.2) k) as
noncomputable def rf_kq (P S : rf_AS) : Bool := List.rec (motive := fun _ => Bool) true (fun f _ _ => bif Nat.beq f.1 99 then qz_a f.2.2 (qz_k S) else true) P.2.2.2.2.1
noncomputable def rf_arr (n k : Nat) (cm : Option rf_M) (cu : rf_CUT) (S : rf_AS) : Bool := rf_fitc n k cu.2.1 S (rf_smc n k cu.2.1 S).1 (rf_smc n k cu.2.1 S).2 && (rf_mnn cu.2.1.1 cu.2.2.1 && (match cm, rf_msub (rf_smc n k cu.2.1 S).1 cu.2.2.1 with
  | none, some _ => true
  | some c0, some c1 => rf_mlex S.1 c1 c0
  | _, none => false))
