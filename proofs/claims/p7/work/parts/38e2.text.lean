/-! THE LAW'S TEXT: it is read in one way alone -/
theorem rf_ytc_at {G n p z : Int} (h0 : 0 ≤ p) (h1 : p < n) (e : z = rf_dc p.toNat G) : rf_ytc G n p = rf_ynr z := by
  unfold rf_ytc
  rw [if_pos ⟨h0, h1⟩, e]
theorem rf_ytc_end {G n p : Int} (h : n ≤ p) : rf_ytc G n p = 0 := by
  unfold rf_ytc
  rw [if_neg (by omega)]
theorem rf_ytc_in {G n p z : Int} (h0 : 0 ≤ p) (h1 : p < n) (e : z = rf_dc p.toNat G) (h2 : 1 ≤ z) (h3 : z ≤ 127) : rf_ytc G n p = z := by
  rw [rf_ytc_at h0 h1 e]
  unfold rf_ynr
  rw [if_pos ⟨h2, h3⟩]
theorem rf_ytc_or {G n p z : Int} (h0 : 0 ≤ p) (h1 : p < n) (e : z = rf_dc p.toNat G) : rf_ytc G n p = z ∧ 1 ≤ z ∧ z ≤ 127 ∨ rf_ytc G n p = 0 := by
  rw [rf_ytc_at h0 h1 e]
  unfold rf_ynr
  by_cases h : 1 ≤ z ∧ z ≤ 127
  · rw [if_pos h]
    exact .inl ⟨rfl, h⟩
  · rw [if_neg h]
    exact .inr rfl
theorem rf_ytc_n {G n p : Int} (h : rf_ytc G n p ≠ 0) : p < n := by
  apply Decidable.byContradiction
  intro hn
  exact h (rf_ytc_end (by omega))
theorem rf_ynam_dig {c : Int} (h1 : 48 ≤ c) (h2 : c ≤ 57) : rf_ynam c = -1 := by
  unfold rf_ynam
  rw [if_neg (by omega), if_neg (by omega), if_neg (by omega), if_neg (by omega), if_neg (by omega), if_neg (by omega)]
theorem rf_ynam_op {c : Int} (h : c = 40 ∨ c = 33 ∨ c = 45) : rf_ynam c = -1 := by
  unfold rf_ynam
  rw [if_neg (by omega), if_neg (by omega), if_neg (by omega), if_neg (by omega), if_neg (by omega), if_neg (by omega)]
theorem rf_yG_det {t : Int → Int} {nt : rf_yN} {o p q : Int} {r : Option (List (Int × Int))} (h : rf_yG t nt o p q r) : ∀ {q' : Int} {r' : Option (List (Int × Int))}, rf_yG t nt o p q' r' → q = q' ∧ r = r' := by
  induction h with
  | lv hk h1 h2 ih1 ih2 =>
    intro q' r' h'
    cases h' with
    | lv _ g1 g2 =>
      obtain ⟨rfl, e⟩ := ih1 g1
      cases e
      obtain ⟨rfl, e⟩ := ih2 g2
      cases e
      exact ⟨rfl, rfl⟩
    | lvx _ g1 g2 =>
      obtain ⟨rfl, e⟩ := ih1 g1
      exact absurd (ih2 g2).2 (by simp)
    | lvb _ g1 => exact absurd (ih1 g1).2 (by simp)
  | lvx hk h1 h2 ih1 ih2 =>
    intro q' r' h'
    cases h' with
    | lv _ g1 g2 =>
      obtain ⟨rfl, e⟩ := ih1 g1
      exact absurd (ih2 g2).2 (by simp)
    | lvx _ g1 g2 =>
      obtain ⟨rfl, e⟩ := ih1 g1
      exact ⟨(ih2 g2).1, rfl⟩
    | lvb _ g1 => exact absurd (ih1 g1).2 (by simp)
  | lvb hk h1 ih1 =>
    intro q' r' h'
    cases h' with
    | lv _ g1 g2 => exact absurd (ih1 g1).2 (by simp)
    | lvx _ g1 g2 => exact absurd (ih1 g1).2 (by simp)
    | lvb _ g1 => exact ⟨(ih1 g1).1, rfl⟩
  | le hk hs =>
    intro q' r' h'
    cases h' with
    | le => exact ⟨rfl, rfl⟩
    | lg _ _ g => exact absurd hs g
    | lgx _ _ g => exact absurd hs g
    | l2 g => exact absurd hs g
    | lb _ g => exact absurd hs g
  | lg hk hn hs h1 h2 ih1 ih2 =>
    intro q' r' h'
    cases h' with
    | le _ g => exact absurd g hs
    | lg _ _ _ g1 g2 =>
      obtain ⟨rfl, e⟩ := ih1 g1
      cases e
      obtain ⟨rfl, e⟩ := ih2 g2
      cases e
      exact ⟨rfl, rfl⟩
    | lgx _ _ _ g1 g2 =>
      obtain ⟨rfl, e⟩ := ih1 g1
      exact absurd (ih2 g2).2 (by simp)
    | l2 => exact absurd rfl hn
    | lb _ _ g1 => exact absurd (ih1 g1).2 (by simp)
  | lgx hk hn hs h1 h2 ih1 ih2 =>
    intro q' r' h'
    cases h' with
    | le _ g => exact absurd g hs
    | lg _ _ _ g1 g2 =>
      obtain ⟨rfl, e⟩ := ih1 g1
      exact absurd (ih2 g2).2 (by simp)
    | lgx _ _ _ g1 g2 =>
      obtain ⟨rfl, e⟩ := ih1 g1
      exact ⟨(ih2 g2).1, rfl⟩
    | l2 => exact absurd rfl hn
    | lb _ _ g1 => exact absurd (ih1 g1).2 (by simp)
  | l2 hs h1 ih1 =>
    intro q' r' h'
    cases h' with
    | le _ g => exact absurd g hs
    | lg _ g => exact absurd rfl g
    | lgx _ g => exact absurd rfl g
    | l2 _ g1 =>
      obtain ⟨rfl, e⟩ := ih1 g1
      cases e
      exact ⟨rfl, rfl⟩
    | lb _ _ g1 => exact absurd (ih1 g1).2 (by simp)
  | lb hk hs h1 ih1 =>
    intro q' r' h'
    cases h' with
    | le _ g => exact absurd g hs
    | lg _ _ _ g1 g2 => exact absurd (ih1 g1).2 (by simp)
    | lgx _ _ _ g1 g2 => exact absurd (ih1 g1).2 (by simp)
    | l2 _ g1 => exact absurd (ih1 g1).2 (by simp)
    | lb _ _ g1 => exact ⟨(ih1 g1).1, rfl⟩
  | nm hn =>
    intro q' r' h'
    cases h' with
    | nm => exact ⟨rfl, rfl⟩
    | nu a b c d => exact absurd hn (by have := c 0 (by omega); simp [rf_ydig] at this; rw [rf_ynam_dig this.1 this.2]; simp)
    | n5 c => exact absurd hn (by have := c 0 (by omega); simp [rf_ydig] at this; rw [rf_ynam_dig this.1 this.2]; simp)
    | no g => exact absurd g hn
    | ob _ g => exact absurd (rf_ynam_op g) hn
    | un _ g => exact absurd (rf_ynam_op (.inr g)) hn
    | unb _ g => exact absurd (rf_ynam_op (.inr g)) hn
    | pa _ g => exact absurd (rf_ynam_op (.inl g)) hn
    | pax _ g => exact absurd (rf_ynam_op (.inl g)) hn
    | pab _ g => exact absurd (rf_ynam_op (.inl g)) hn
  | @nu o p m a b c d =>
    intro q' r' h'
    have z := c 0 (by omega)
    simp only [rf_ydig, Int.cast_ofNat_Int, Int.add_zero] at z
    cases h' with
    | nm g => exact absurd g (by rw [rf_ynam_dig z.1 z.2]; simp)
    | @nu _ _ m' a' b' c' d' =>
      have e : m = m' := by
        rcases Nat.lt_trichotomy m m' with h | h | h
        · exact absurd (c' _ h) d
        · exact h
        · exact absurd (c _ h) d'
      subst e
      exact ⟨rfl, rfl⟩
    | n5 c' => exact absurd (c' m (by omega)) d
    | no _ g => exact absurd z g
    | ob _ g => omega
    | un _ g => omega
    | unb _ g => omega
    | pa _ g => omega
    | pax _ g => omega
    | pab _ g => omega
  | n5 c =>
    intro q' r' h'
    have z := c 0 (by omega)
    simp only [rf_ydig, Int.cast_ofNat_Int, Int.add_zero] at z
    cases h' with
    | nm g => exact absurd g (by rw [rf_ynam_dig z.1 z.2]; simp)
    | nu a' b' c' d' => exact absurd (c _ b') d'
    | n5 c' => exact ⟨rfl, rfl⟩
    | no _ g => exact absurd z g
    | ob _ g => omega
    | un _ g => omega
    | unb _ g => omega
    | pa _ g => omega
    | pax _ g => omega
    | pab _ g => omega
  | no g1 g2 g3 g4 g5 =>
    intro q' r' h'
    cases h' with
    | nm g => exact absurd g1 g
    | nu a b c d => exact absurd (by simpa using c 0 (by omega)) g2
    | n5 c => exact absurd (by simpa using c 0 (by omega)) g2
    | no => exact ⟨rfl, rfl⟩
    | ob _ g => omega
    | un _ g => omega
    | unb _ g => omega
    | pa _ g => omega
    | pax _ g => omega
    | pab _ g => omega
  | ob g1 g2 =>
    intro q' r' h'
    cases h' with
    | nm g => exact absurd (rf_ynam_op g2) g
    | nu a b c d =>
      have z := c 0 (by omega)
      simp only [rf_ydig, Int.cast_ofNat_Int, Int.add_zero] at z
      omega
    | n5 c =>
      have z := c 0 (by omega)
      simp only [rf_ydig, Int.cast_ofNat_Int, Int.add_zero] at z
      omega
    | no => exact ⟨rfl, rfl⟩
    | ob => exact ⟨rfl, rfl⟩
    | un g => omega
    | unb g => omega
    | pa g => omega
    | pax g => omega
    | pab g => omega
  | un g1 g2 g3 ih =>
    intro q' r' h'
    cases h' with
    | nm g => exact absurd (rf_ynam_op (.inr g2)) g
    | nu a b c d =>
      have z := c 0 (by omega)
      simp only [rf_ydig, Int.cast_ofNat_Int, Int.add_zero] at z
      omega
    | n5 c =>
      have z := c 0 (by omega)
      simp only [rf_ydig, Int.cast_ofNat_Int, Int.add_zero] at z
      omega
    | no _ _ _ g4 g5 => exact absurd g2 (by rintro (h | h) <;> omega)
    | ob g => omega
    | un _ _ g =>
      obtain ⟨rfl, e⟩ := ih g
      cases e
      exact ⟨rfl, rfl⟩
    | unb _ _ g => exact absurd (ih g).2 (by simp)
    | pa _ g => omega
    | pax _ g => omega
    | pab _ g => omega
  | unb g1 g2 g3 ih =>
    intro q' r' h'
    cases h' with
    | nm g => exact absurd (rf_ynam_op (.inr g2)) g
    | nu a b c d =>
      have z := c 0 (by omega)
      simp only [rf_ydig, Int.cast_ofNat_Int, Int.add_zero] at z
      omega
    | n5 c =>
      have z := c 0 (by omega)
      simp only [rf_ydig, Int.cast_ofNat_Int, Int.add_zero] at z
      omega
    | no _ _ _ g4 g5 => exact absurd g2 (by rintro (h | h) <;> omega)
    | ob g => omega
    | un _ _ g => exact absurd (ih g).2 (by simp)
    | unb _ _ g => exact ⟨(ih g).1, rfl⟩
    | pa _ g => omega
    | pax _ g => omega
    | pab _ g => omega
  | pa g1 g2 g3 g4 ih =>
    intro q' r' h'
    cases h' with
    | nm g => exact absurd (rf_ynam_op (.inl g2)) g
    | nu a b c d =>
      have z := c 0 (by omega)
      simp only [rf_ydig, Int.cast_ofNat_Int, Int.add_zero] at z
      omega
    | n5 c =>
      have z := c 0 (by omega)
      simp only [rf_ydig, Int.cast_ofNat_Int, Int.add_zero] at z
      omega
    | no _ _ g => exact absurd g2 g
    | ob g => omega
    | un _ g => omega
    | unb _ g => omega
    | pa _ _ g =>
      obtain ⟨rfl, e⟩ := ih g
      cases e
      exact ⟨rfl, rfl⟩
    | pax _ _ g h =>
      obtain ⟨rfl, e⟩ := ih g
      exact absurd g4 h
    | pab _ _ g => exact absurd (ih g).2 (by simp)
  | pax g1 g2 g3 g4 ih =>
    intro q' r' h'
    cases h' with
    | nm g => exact absurd (rf_ynam_op (.inl g2)) g
    | nu a b c d =>
      have z := c 0 (by omega)
      simp only [rf_ydig, Int.cast_ofNat_Int, Int.add_zero] at z
      omega
    | n5 c =>
      have z := c 0 (by omega)
      simp only [rf_ydig, Int.cast_ofNat_Int, Int.add_zero] at z
      omega
    | no _ _ g => exact absurd g2 g
    | ob g => omega
    | un _ g => omega
    | unb _ g => omega
    | pa _ _ g h =>
      obtain ⟨rfl, e⟩ := ih g
      exact absurd h g4
    | pax _ _ g h => exact ⟨(ih g).1, rfl⟩
    | pab _ _ g => exact absurd (ih g).2 (by simp)
  | pab g1 g2 g3 ih =>
    intro q' r' h'
    cases h' with
    | nm g => exact absurd (rf_ynam_op (.inl g2)) g
    | nu a b c d =>
      have z := c 0 (by omega)
      simp only [rf_ydig, Int.cast_ofNat_Int, Int.add_zero] at z
      omega
    | n5 c =>
      have z := c 0 (by omega)
      simp only [rf_ydig, Int.cast_ofNat_Int, Int.add_zero] at z
      omega
    | no _ _ g => exact absurd g2 g
    | ob g => omega
    | un _ g => omega
    | unb _ g => omega
    | pa _ _ g h => exact absurd (ih g).2 (by simp)
    | pax _ _ g h => exact absurd (ih g).2 (by simp)
    | pab _ _ g => exact ⟨(ih g).1, rfl⟩
theorem rf_yLk_det {t : Int → Int} {p q q' : Int} (h : rf_yLk t p q) (h' : rf_yLk t p q') : q = q' := by
  obtain ⟨q1, l1, a, b⟩ := h
  obtain ⟨q2, l2, a', b'⟩ := h'
  obtain ⟨rfl, -⟩ := rf_yG_det a a'
  rcases b with ⟨b1, b2⟩ | ⟨b1, l3, b2⟩ <;> rcases b' with ⟨c1, c2⟩ | ⟨c1, l4, c2⟩
  · omega
  · exact absurd c1 b1
  · exact absurd b1 c1
  · exact (rf_yG_det b2 c2).1
theorem rf_yLb_det {t : Int → Int} {p q q' : Int} (h : rf_yLb t p q) (h' : rf_yLb t p q') : q = q' := by
  rcases h with h | ⟨q1, l1, a, b, c⟩ <;> rcases h' with h' | ⟨q2, l2, a', b', c'⟩
  · exact (rf_yG_det h h').1
  · exact absurd (rf_yG_det h a').2 (by simp)
  · exact absurd (rf_yG_det a h').2 (by simp)
  · obtain ⟨rfl, -⟩ := rf_yG_det a a'
    exact (rf_yG_det c c').1
theorem rf_yLkb {t : Int → Int} {p q q' : Int} (h : rf_yLk t p q) (h' : rf_yLb t p q') : False := by
  obtain ⟨q1, l1, a, b⟩ := h
  rcases h' with h' | ⟨q2, l2, a', b', c'⟩
  · exact absurd (rf_yG_det a h').2 (by simp)
  · obtain ⟨rfl, -⟩ := rf_yG_det a a'
    rcases b with ⟨b1, b2⟩ | ⟨b1, l3, b2⟩
    · exact b1 b'
    · exact absurd (rf_yG_det b2 c').2 (by simp)
theorem rf_yT_det {t : Int → Int} {n p : Int} {r : Option Int} (h : rf_yT t n p r) : ∀ {r' : Option Int}, rf_yT t n p r' → r = r' := by
  induction h with
  | ok h1 h2 =>
    intro r' h'
    cases h' with
    | ok => rfl
    | go g1 g2 => have := rf_yLk_det h1 g1; omega
    | bx g1 g2 => have := rf_yLk_det h1 g1; omega
    | bl g => exact (rf_yLkb h1 g).elim
  | go h1 h2 h3 h4 ih =>
    intro r' h'
    cases h' with
    | ok g1 g2 => have := rf_yLk_det h1 g1; omega
    | go g1 g2 g3 g4 =>
      obtain rfl := rf_yLk_det h1 g1
      exact ih g4
    | bx g1 g2 g3 =>
      obtain rfl := rf_yLk_det h1 g1
      exact absurd h3 g3
    | bl g => exact (rf_yLkb h1 g).elim
  | bx h1 h2 h3 =>
    intro r' h'
    cases h' with
    | ok g1 g2 => have := rf_yLk_det h1 g1; omega
    | go g1 g2 g3 g4 =>
      obtain rfl := rf_yLk_det h1 g1
      exact absurd g3 h3
    | bx g1 g2 g3 => rw [rf_yLk_det h1 g1]
    | bl g => exact (rf_yLkb h1 g).elim
  | bl h1 =>
    intro r' h'
    cases h' with
    | ok g1 g2 => exact (rf_yLkb g1 h1).elim
    | go g1 g2 g3 g4 => exact (rf_yLkb g1 h1).elim
    | bx g1 g2 g3 => exact (rf_yLkb g1 h1).elim
    | bl g => rw [rf_yLb_det h1 g]
theorem rf_ysgn_0 (k : Nat) : rf_ysgn k 0 = -1 := by
  match k with
  | 0 => rfl
  | 1 => rfl
  | 2 => rfl
  | 3 => rfl
  | 4 => rfl
  | _ + 5 => rfl
theorem rf_ysgn_dig (k : Nat) {c : Int} (h : rf_ydig c) : rf_ysgn k c = -1 := by
  obtain ⟨h1, h2⟩ := h
  match k with
  | 0 =>
    show (if c = 124 then (6 : Int) else -1) = -1
    rw [if_neg (by omega)]
  | 1 =>
    show (if c = 38 then (7 : Int) else -1) = -1
    rw [if_neg (by omega)]
  | 2 =>
    show (if c = 60 then (8 : Int) else if c = 61 then (9 : Int) else if c = 62 then (10 : Int) else -1) = -1
    rw [if_neg (by omega), if_neg (by omega), if_neg (by omega)]
  | 3 =>
    show (if c = 43 then (11 : Int) else if c = 45 then (12 : Int) else -1) = -1
    rw [if_neg (by omega), if_neg (by omega)]
  | 4 =>
    show (if c = 42 then (13 : Int) else if c = 47 then (14 : Int) else if c = 37 then (15 : Int) else -1) = -1
    rw [if_neg (by omega), if_neg (by omega), if_neg (by omega)]
  | _ + 5 => rfl
theorem rf_ynt_lv {k : Int} (h : k ≤ 4) : rf_ynt k = .lv k.toNat := by
  unfold rf_ynt
  rw [if_neg (by omega)]
theorem rf_ynt_sub {k : Int} (h0 : 0 ≤ k) (h4 : k ≤ 4) : rf_ynt (k + 1) = rf_ysub k.toNat := by
  unfold rf_ynt rf_ysub
  by_cases h : k = 4
  · rw [if_pos (by omega), if_pos (by omega)]
  · rw [if_neg (by omega), if_neg (by omega)]
    congr 1
    omega
theorem rf_yno {t : Int → Int} {o p x : Int} (e : t p = x) (h : x ≠ 33 ∧ x ≠ 40 ∧ x ≠ 45 ∧ ¬ (48 ≤ x ∧ x ≤ 57) ∧ x ≠ 98 ∧ x ≠ 102 ∧ x ≠ 107 ∧ x ≠ 111 ∧ x ≠ 115 ∧ x ≠ 116) : rf_yG t .on o p p none := by
  have hn : rf_ynam (t p) = -1 := by
    rw [e]
    unfold rf_ynam
    rw [if_neg h.2.2.2.2.2.1, if_neg h.2.2.2.2.2.2.2.1, if_neg h.2.2.2.2.2.2.2.2.2, if_neg h.2.2.2.2.1, if_neg h.2.2.2.2.2.2.2.2.1, if_neg h.2.2.2.2.2.2.1]
  refine rf_yG.no hn ?_ ?_ ?_ ?_
  · rw [e]
    exact fun hd => h.2.2.2.1 ⟨hd.1, hd.2⟩
  · rw [e]
    exact h.2.1
  · rw [e]
    exact h.1
  · rw [e]
    exact h.2.2.1
theorem rf_yst1_0 {t : Int → Int} {k o p q : Int} {l : List (Int × Int)} (h4 : k.toNat ≤ 4) (h : rf_yG t (rf_ysub k.toNat) o p q (some l)) : rf_yst1 t k o p q :=
  ⟨l, fun _ _ g => rf_yG.lv h4 h g, fun _ g => rf_yG.lvx h4 h g⟩
theorem rf_yst1_go {t : Int → Int} {k o p c q : Int} {l : List (Int × Int)} (h4 : k.toNat ≤ 4) (h2 : k.toNat ≠ 2) (a : rf_yst1 t k o p c) (b : rf_ysgn k.toNat (t c) ≠ -1) (h : rf_yG t (rf_ysub k.toNat) o (c + 1) q (some l)) : rf_yst1 t k o p q := by
  obtain ⟨acc, f, g⟩ := a
  refine ⟨acc ++ l ++ [(rf_ysgn k.toNat (t c), 0)], fun r l' hr => ?_, fun r hr => g r (rf_yG.lgx h4 h2 b h hr)⟩
  have := f r _ (rf_yG.lg h4 h2 b h hr)
  rw [List.append_assoc, List.append_assoc]
  exact this
theorem rf_yst1_bad {t : Int → Int} {k : Int} {o p c q : Int} (h4 : k.toNat ≤ 4) (a : rf_yst1 t k o p c) (b : rf_ysgn k.toNat (t c) ≠ -1) (h : rf_yG t (rf_ysub k.toNat) o (c + 1) q none) : rf_yG t (.lv k.toNat) o p q none := by
  obtain ⟨acc, f, g⟩ := a
  exact g q (rf_yG.lb h4 b h)
theorem rf_yst1_end {t : Int → Int} {k o p c : Int} (h4 : k.toNat ≤ 4) (a : rf_yst1 t k o p c) (b : rf_ysgn k.toNat (t c) = -1) : ∃ l, rf_yG t (.lv k.toNat) o p c (some l) := by
  obtain ⟨acc, f, g⟩ := a
  exact ⟨_, f c _ (rf_yG.le h4 b)⟩
theorem rf_yst1_two {t : Int → Int} {o p c q : Int} {l : List (Int × Int)} (a : rf_yst1 t 2 o p c) (b : rf_ysgn 2 (t c) ≠ -1) (h : rf_yG t (rf_ysub 2) o (c + 1) q (some l)) : ∃ l, rf_yG t (.lv 2) o p q (some l) := by
  obtain ⟨acc, f, g⟩ := a
  exact ⟨_, f q _ (rf_yG.l2 b h)⟩
theorem rf_ybm8 (v : Int) : v.bmod (2 ^ 8) = if v % 256 < 128 then v % 256 else v % 256 - 256 := by
  simp only [Int.bmod]
  rfl
theorem rf_ynr_r (v : Int) : -128 ≤ v.bmod (2 ^ 8) ∧ v.bmod (2 ^ 8) ≤ 127 := by
  rw [rf_ybm8]
  split <;> omega
theorem rf_ynr_b {v : Int} (h1 : 0 ≤ v) (h2 : v ≤ 255) : rf_ynr v = rf_ynr (v.bmod (2 ^ 8)) := by
  rw [rf_ybm8]
  unfold rf_ynr
  by_cases h : v ≤ 127
  · rw [show v % 256 = v by omega, if_pos (show v < 128 by omega)]
  · rw [if_neg (show ¬ (1 ≤ v ∧ v ≤ 127) by omega), if_neg (show ¬ v % 256 < 128 by omega), if_neg (by omega)]
theorem rf_ytc_eq {g h n : Int} (a : ∀ j : Nat, (j : Int) < n → rf_ynr (rf_dc j g) = rf_ynr (rf_dc j h)) : rf_ytc g n = rf_ytc h n := by
  funext p
  unfold rf_ytc
  by_cases hp : 0 ≤ p ∧ p < n
  · rw [if_pos hp, if_pos hp]
    exact a _ (by omega)
  · rw [if_neg hp, if_neg hp]
theorem rf_yshr (a : Int) (h1 : -2147483648 ≤ a) (h2 : a ≤ 2147483647) : (Int32.ofInt a >>> (Int32.ofInt 0 &&& 31)).toInt = a := by
  have e : (Int32.ofInt 0 &&& 31) = 0 := by decide
  rw [e, Int32.shiftRight_zero]
  exact Int32.toInt_ofInt_of_le (by simpa using h1) (by simpa using (by omega : a < 2147483648))
