/-! THE CHECKER, quick, behind a call -/
noncomputable def qk_om {α β : Type} (f : α → Option β) (l : List α) : Option (List β) := List.rec (motive := fun _ => Option (List β)) (some []) (fun a _ ih => Option.rec (motive := fun _ => Option (List β)) none (fun b => Option.rec (motive := fun _ => Option (List β)) none (fun r => some (b :: r)) ih) (f a)) l
theorem qk_om_eq {α β : Type} (f : α → Option β) : ∀ (l : List α), qk_om f l = rf_om f l
  | [] => rfl
  | a :: l => by
    have ih := qk_om_eq f l
    show Option.rec (motive := fun _ => Option (List β)) none (fun b => Option.rec (motive := fun _ => Option (List β)) none (fun r => some (b :: r)) (qk_om f l)) (f a) = rf_om f (a :: l)
    cases h1 : f a with
    | none =>
      have e : rf_om f (a :: l) = none := by simp only [rf_om, h1]
      rw [e]
    | some b =>
      cases h2 : rf_om f l with
      | none =>
        have e : rf_om f (a :: l) = none := by simp only [rf_om, h1, h2]
        rw [e]
        show Option.rec (motive := fun _ => Option (List β)) none (fun r => some (b :: r)) (qk_om f l) = none
        rw [ih, h2]
      | some r =>
        have e : rf_om f (a :: l) = some (b :: r) := by simp only [rf_om, h1, h2]
        rw [e]
        show Option.rec (motive := fun _ => Option (List β)) none (fun r => some (b :: r)) (qk_om f l) = some (b :: r)
        rw [ih, h2]
def qg_sv (sg : Nat → Option (Nat × Int)) (mu : Nat → Option Nat) (a : rf_AV) : Option rf_AV := match a.1 with
  | 0 => (match sg a.2.1 with
    | some q => some (0, q.1, q.2 + a.2.2)
    | none => none)
  | 1 => (match sg a.2.1 with
    | some q => some (1, q.1, q.2 + a.2.2)
    | none => none)
  | 2 => (match mu a.2.1 with
    | some k => some (2, k, 0)
    | none => none)
  | 3 => some (3, 0, 0)
  | 4 => some (4, a.2.1, 0)
  | _ => none
theorem qg_sv_eq (σ : List (Nat × Int)) (μ : List Nat) : qg_sv (rf_sg σ) (qg_mu μ) = rf_sv σ μ := rfl
noncomputable def qg_sc (sg : Nat → Option (Nat × Int)) (mu : Nat → Option Nat) (c : rf_AC) : Option rf_AC := match c.1 with
  | 1 => some c
  | 0 => (match qk_om (qg_sv sg mu) c.2.2.2.2 with
    | some l => some (0, c.2.1, c.2.2.1, c.2.2.2.1, l)
    | none => none)
  | 2 => (match qk_om (qg_sv sg mu) c.2.2.2.2 with
    | some l => some (2, c.2.1, c.2.2.1, c.2.2.2.1, l)
    | none => none)
  | 3 => (match qk_om (qg_sv sg mu) c.2.2.2.2 with
    | some l => some (3, c.2.1, c.2.2.1, c.2.2.2.1, l)
    | none => none)
  | _ => none
theorem qg_sc_eq (σ : List (Nat × Int)) (μ : List Nat) : qg_sc (rf_sg σ) (qg_mu μ) = rf_sc σ μ := by
  funext c
  unfold qg_sc rf_sc
  rw [qg_sv_eq, qk_om_eq] <;> rfl
def qg_sn (sg : Nat → Option (Nat × Int)) (a : rf_AV) : Option rf_AV := match sg a.2.1 with
  | some q => some (a.1, q.1, q.2 + a.2.2)
  | none => none
theorem qg_sn_eq (σ : List (Nat × Int)) : qg_sn (rf_sg σ) = rf_sn σ := rfl
noncomputable def qg_sf (sg : Nat → Option (Nat × Int)) (mu : Nat → Option Nat) (f : rf_FC) : Option rf_FC := match qk_om mu f.2.1, qk_om (qg_sn sg) f.2.2 with
  | some ks, some as => some (f.1, ks, as)
  | _, _ => none
theorem qg_sf_eq (σ : List (Nat × Int)) (μ : List Nat) : qg_sf (rf_sg σ) (qg_mu μ) = rf_sf σ μ := by
  funext f
  unfold qg_sf rf_sf
  rw [qg_sn_eq, qk_om_eq, qk_om_eq] <;> rfl
noncomputable def qk_in (gi : Nat → Option rf_GI) (q : Nat × Int) (b : rf_GI) : Bool := Option.rec (motive := fun _ => Bool) false (fun z => qi_le (b.1 - q.2) z.1 && (qi_le z.2.1 (b.2.1 - q.2) && !b.2.2)) (gi q.1)
def qk_cuts (gi : Nat → Option rf_GI) (t : (Nat → Option rf_GI) → Nat × Int → rf_GI → Bool) : rf_EV → List (Nat × Int) → List rf_GI → Option rf_EV
  | E, q :: σ, b :: bs => if t gi q b then qk_cuts gi t E σ bs else (match rf_cut E q.1 (b.1 - q.2) (b.2.1 - q.2) (b.2.2 && decide (q.2 = 0)) with
    | some E' => qk_cuts gi t E' σ bs
    | none => none)
  | E, _, _ => some E
theorem qk_cuts_spec {ρ : List Int} {gi : Nat → Option rf_GI} {t : (Nat → Option rf_GI) → Nat × Int → rf_GI → Bool} : ∀ {σ : List (Nat × Int)} {ρc : List Int} {bs : List rf_GI} {E : rf_EV}, rf_okE ρ E → rf_val ρ σ ρc → (∀ (i : Nat) (b : rf_GI), bs[i]? = some b → ∃ r, ρc[i]? = some r ∧ b.1 ≤ r ∧ r ≤ b.2.1 ∧ (b.2.2 = true → r ≠ 0)) → ∃ E', qk_cuts gi t E σ bs = some E' ∧ rf_okE ρ E' ∧ E'.1.length = E.1.length
  | [], _, _, E, hE, _, _ => ⟨E, by simp [qk_cuts], hE, rfl⟩
  | q :: σ, [], _, _, _, hv, _ => hv.elim
  | q :: σ, r :: ρc, [], E, hE, _, _ => ⟨E, by simp [qk_cuts], hE, rfl⟩
  | q :: σ, r :: ρc, b :: bs, E, hE, hv, hb => by
    have hb' : ∀ (i : Nat) (b' : rf_GI), bs[i]? = some b' → ∃ r, ρc[i]? = some r ∧ b'.1 ≤ r ∧ r ≤ b'.2.1 ∧ (b'.2.2 = true → r ≠ 0) := fun i b' hi => by
      have := hb (i + 1) b' (by simpa using hi)
      simpa using this
    by_cases ht : t gi q b = true
    · obtain ⟨E2, p1, p2, p3⟩ := qk_cuts_spec (gi := gi) (t := t) hE hv.2 hb'
      exact ⟨E2, by simp only [qk_cuts]; rw [if_pos ht]; exact p1, p2, p3⟩
    · obtain ⟨r', e1, e2, e3, e4⟩ := hb 0 b rfl
      cases e1
      obtain ⟨x, x1, x2⟩ := hv.1
      obtain ⟨E1, q1, q2⟩ := rf_cut_spec hE (lo := b.1 - q.2) (hi := b.2.1 - q.2) (nz := b.2.2 && decide (q.2 = 0)) x1 (by omega) (by omega) (fun hh => by
        simp only [Bool.and_eq_true, decide_eq_true_eq] at hh
        have := e4 hh.1
        omega)
      obtain ⟨E2, p1, p2, p3⟩ := qk_cuts_spec (gi := gi) (t := t) q2 hv.2 hb'
      exact ⟨E2, by simp only [qk_cuts]; rw [if_neg ht, q1]; exact p1, p2, p3.trans (rf_cut_len q1)⟩
/-! cells laid into a world, in the order of their places -/
def qk_puts {α : Type} : List α → List (Nat × α) → List α
  | w, [] => w
  | w, p :: ps => qk_puts (w.set p.1 p.2) ps
theorem qk_puts_zip {α : Type} : ∀ (μ : List Nat) (cs w : List α), rf_put w μ cs = qk_puts w (μ.zip cs)
  | [], _, _ => by simp [rf_put, qk_puts]
  | _ :: _, [], _ => by simp [rf_put, qk_puts]
  | k :: μ, c :: cs, w => by
    simp only [rf_put, List.zip_cons_cons, qk_puts]
    exact qk_puts_zip μ cs (w.set k c)
theorem qk_puts_nil {α : Type} : ∀ (ps : List (Nat × α)), qk_puts [] ps = []
  | [] => rfl
  | _ :: ps => by
    simp only [qk_puts, List.set_nil]
    exact qk_puts_nil ps
noncomputable def qk_so {α : Type} (ps : List (Nat × α)) : Nat → Bool := List.rec (motive := fun _ => Nat → Bool) (fun _ => true) (fun p _ ih lo => and (Nat.ble lo p.1) (ih (p.1 + 1))) ps
theorem qk_so_cons {α : Type} {p : Nat × α} {ps : List (Nat × α)} {lo : Nat} (h : qk_so (p :: ps) lo = true) : lo ≤ p.1 ∧ qk_so ps (p.1 + 1) = true := by
  have h' : (Nat.ble lo p.1 && qk_so ps (p.1 + 1)) = true := h
  simp only [Bool.and_eq_true] at h'
  exact ⟨Nat.le_of_ble_eq_true h'.1, h'.2⟩
theorem qk_so_lower {α : Type} {ps : List (Nat × α)} {lo lo' : Nat} (h : qk_so ps lo = true) (hl : ∀ p ∈ ps.head?, lo' ≤ p.1) : qk_so ps lo' = true := by
  cases ps with
  | nil => rfl
  | cons p ps =>
    obtain ⟨-, h2⟩ := qk_so_cons h
    have h3 : lo' ≤ p.1 := hl p (by simp)
    show (Nat.ble lo' p.1 && qk_so ps (p.1 + 1)) = true
    rw [Nat.ble_eq_true_of_le h3, h2]
    rfl
theorem qk_so_ge {α : Type} : ∀ {ps : List (Nat × α)} {lo : Nat}, qk_so ps lo = true → ∀ p ∈ ps, lo ≤ p.1
  | [], _, _, p, hp => by cases hp
  | q :: ps, lo, h, p, hp => by
    obtain ⟨h1, h2⟩ := qk_so_cons h
    rcases List.mem_cons.mp hp with rfl | hp
    · exact h1
    · have := qk_so_ge h2 p hp
      omega
theorem qk_puts_cons {α : Type} {x : α} {i : Nat} : ∀ (ps : List (Nat × α)) (t : List α), (∀ p ∈ ps, i + 1 ≤ p.1) → qk_puts (x :: t) (ps.map (fun p => (p.1 - i, p.2))) = x :: qk_puts t (ps.map (fun p => (p.1 - (i + 1), p.2)))
  | [], _, _ => rfl
  | p :: ps, t, h => by
    have hp := h p List.mem_cons_self
    simp only [List.map_cons, qk_puts]
    rw [show p.1 - i = (p.1 - (i + 1)) + 1 by omega, List.set_cons_succ]
    exact qk_puts_cons ps _ (fun q hq => h q (List.mem_cons_of_mem _ hq))
noncomputable def qk_mp {α : Type} (w : List α) : Nat → List (Nat × α) → List α := List.rec (motive := fun _ => Nat → List (Nat × α) → List α) (fun _ _ => []) (fun c t ih i ps => List.rec (motive := fun _ => List α) (c :: t) (fun p ps' _ => bif Nat.beq p.1 i then p.2 :: ih (i + 1) ps' else c :: ih (i + 1) ps) ps) w
theorem qk_mp_eq {α : Type} : ∀ (w : List α) (i : Nat) (ps : List (Nat × α)), qk_so ps i = true → qk_mp w i ps = qk_puts w (ps.map (fun p => (p.1 - i, p.2)))
  | [], i, ps, _ => (qk_puts_nil _).symm
  | c :: t, i, [], _ => rfl
  | c :: t, i, p :: ps, h => by
    obtain ⟨h1, h2⟩ := qk_so_cons h
    show (bif Nat.beq p.1 i then p.2 :: qk_mp t (i + 1) ps else c :: qk_mp t (i + 1) (p :: ps)) = _
    cases hb : Nat.beq p.1 i with
    | true =>
      have e := Nat.eq_of_beq_eq_true hb
      show p.2 :: qk_mp t (i + 1) ps = _
      rw [e] at h2
      rw [qk_mp_eq t (i + 1) ps h2]
      simp only [List.map_cons, qk_puts]
      rw [e, Nat.sub_self, List.set_cons_zero, qk_puts_cons ps t (qk_so_ge h2)]
    | false =>
      have hne : p.1 ≠ i := fun e => by
        rw [e, Nat.beq_refl] at hb
        cases hb
      show c :: qk_mp t (i + 1) (p :: ps) = _
      have h3 : qk_so (p :: ps) (i + 1) = true := qk_so_lower h (fun q hq => by
        have e : p = q := by simpa using hq
        rw [← e]
        omega)
      rw [qk_mp_eq t (i + 1) (p :: ps) h3, qk_puts_cons (p :: ps) t (qk_so_ge h3)]
noncomputable def qk_ins {α : Type} (p : Nat × α) (l : List (Nat × α)) : List (Nat × α) := List.rec (motive := fun _ => List (Nat × α)) [p] (fun q r ih => bif Nat.ble p.1 q.1 then p :: q :: r else q :: ih) l
theorem qk_ins_mem {α : Type} {p x : Nat × α} : ∀ {l : List (Nat × α)}, x ∈ qk_ins p l → x = p ∨ x ∈ l
  | [], h => by
    have h' : x ∈ [p] := h
    exact Or.inl (by simpa using h')
  | q :: r, h => by
    have h' : x ∈ (bif Nat.ble p.1 q.1 then p :: q :: r else q :: qk_ins p r) := h
    cases hb : Nat.ble p.1 q.1 with
    | true =>
      rw [hb] at h'
      have h2 : x ∈ p :: q :: r := h'
      exact List.mem_cons.mp h2
    | false =>
      rw [hb] at h'
      have h2 : x ∈ q :: qk_ins p r := h'
      rcases List.mem_cons.mp h2 with rfl | h2
      · exact Or.inr List.mem_cons_self
      · rcases qk_ins_mem h2 with h3 | h3
        · exact Or.inl h3
        · exact Or.inr (List.mem_cons_of_mem _ h3)
theorem qk_puts_ins {α : Type} {p : Nat × α} : ∀ (l : List (Nat × α)) (w : List α), (∀ q ∈ l, q.1 ≠ p.1) → qk_puts w (qk_ins p l) = qk_puts w (p :: l)
  | [], _, _ => rfl
  | q :: r, w, h => by
    show qk_puts w (bif Nat.ble p.1 q.1 then p :: q :: r else q :: qk_ins p r) = _
    cases hb : Nat.ble p.1 q.1 with
    | true => rfl
    | false =>
      show qk_puts (w.set q.1 q.2) (qk_ins p r) = qk_puts ((w.set p.1 p.2).set q.1 q.2) r
      rw [qk_puts_ins r _ (fun z hz => h z (List.mem_cons_of_mem _ hz))]
      show qk_puts ((w.set q.1 q.2).set p.1 p.2) r = _
      rw [List.set_comm _ _ (h q List.mem_cons_self)]
noncomputable def qk_srt {α : Type} (l : List (Nat × α)) : List (Nat × α) := List.rec (motive := fun _ => List (Nat × α)) [] (fun p _ ih => qk_ins p ih) l
theorem qk_srt_mem {α : Type} {x : Nat × α} : ∀ {l : List (Nat × α)}, x ∈ qk_srt l → x ∈ l
  | [], h => by
    have h' : x ∈ ([] : List (Nat × α)) := h
    cases h'
  | p :: l, h => by
    have h' : x ∈ qk_ins p (qk_srt l) := h
    rcases qk_ins_mem h' with rfl | h'
    · exact List.mem_cons_self
    · exact List.mem_cons_of_mem _ (qk_srt_mem h')
theorem qk_puts_srt {α : Type} : ∀ (μ : List Nat) (cs w : List α), va_nd μ = true → qk_puts w (qk_srt (μ.zip cs)) = qk_puts w (μ.zip cs)
  | [], _, _, _ => rfl
  | _ :: _, [], _, _ => rfl
  | k :: μ, c :: cs, w, h => by
    simp only [va_nd, Bool.and_eq_true, decide_eq_true_eq] at h
    show qk_puts w (qk_ins (k, c) (qk_srt (μ.zip cs))) = qk_puts (w.set k c) (μ.zip cs)
    rw [qk_puts_ins _ _ (fun q hq => fun e => h.1 (by
      have := (List.of_mem_zip (show (q.1, q.2) ∈ μ.zip cs from qk_srt_mem hq)).1
      rw [← show q.1 = k from e]
      exact this))]
    exact qk_puts_srt μ cs (w.set k c) h.2
noncomputable def qk_pu {α : Type} (w : List α) (μ : List Nat) (cs : List α) (ps : List (Nat × α)) : List α := bif qk_so ps 0 then qk_mp w 0 ps else rf_put w μ cs
noncomputable def qk_put {α : Type} (w : List α) (μ : List Nat) (cs : List α) : List α := qk_pu w μ cs (qk_srt (μ.zip cs))
theorem qk_put_eq {α : Type} {w : List α} {μ : List Nat} {cs : List α} (h : va_nd μ = true) : qk_put w μ cs = rf_put w μ cs := by
  unfold qk_put qk_pu
  cases hs : qk_so (qk_srt (μ.zip cs)) 0 with
  | false => rfl
  | true =>
    show qk_mp w 0 (qk_srt (μ.zip cs)) = _
    rw [qk_mp_eq w 0 _ hs]
    have e : (qk_srt (μ.zip cs)).map (fun p => (p.1 - 0, p.2)) = qk_srt (μ.zip cs) := by simp
    rw [e, qk_puts_srt μ cs w h, qk_puts_zip]
