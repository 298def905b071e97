/-! THE LAW'S TEXT: it is read in one way alone -/
theorem rf_ytc_at {G n p z : Int} (h0 : 0 ≤ p) (h1 : p < n) (e : z = rf_dc p.toNat G) : rf_ytc G n p = rf_ynr z := by
  unfold rf_ytc
  rw [if_pos ⟨h0, h1⟩, e]
theorem rf_ytc_end {G n p : Int} (h : n ≤ p) : rf_ytc G n p = 0 := by
  unfold rf_ytc
  rw [if_neg (by omega)]
theorem rf_ytc_in {G n p z : Int} (h0 : 0 ≤ p) (h1 : p < n) (e : z = rf_dc p.toNat G) (h2 : 1 ≤ z) (h3 : z ≤ 127) : rf_ytc G n p = z := by
  rw [rf_ytc_at h0 h1 e]
  unfold rf_ynr
  rw [if_pos ⟨h2, h3⟩]
theorem rf_ytc_or {G n p z : Int} (h0 : 0 ≤ p) (h1 : p < n) (e : z = rf_dc p.toNat G) : rf_ytc G n p = z ∧ 1 ≤ z ∧ z ≤ 127 ∨ rf_ytc G n p = 0 := by
  rw [rf_ytc_at h0 h1 e]
  unfold rf_ynr
  by_cases h : 1 ≤ z ∧ z ≤ 127
  · rw [if_pos h]
    exact .inl ⟨rfl, h⟩
  · rw [if_neg h]
    exact .inr rfl
theorem rf_ytc_n {G n p : Int} (h : rf_ytc G n p ≠ 0) : p < n := by
  apply Decidable.byContradiction
  intro hn
  exact h (rf_ytc_end (by omega))
theorem rf_ynam_dig {c : Int} (h1 : 48 ≤ c) (h2 : c ≤ 57) : rf_ynam c = -1 := by
  unfold rf_ynam
  rw [if_neg (by omega), if_neg (by omega), if_neg (by omega), if_neg (by omega), if_neg (by omega), if_neg (by omega)]
theorem rf_ynam_op {c : Int} (h : c = 40 ∨ c = 33 ∨ c = 45) : rf_ynam c = -1 := by
  unfold rf_ynam
  rw [if_neg (by omega), if_neg (by omega), if_neg (by omega), if_neg (by omega), if_neg (by omega), if_neg (by omega)]
theorem rf_yb_mono {x x' : Option (Int × Option (List (Int × Int)))} {f f' : Int → List (Int × Int) → Option (Int × Option (List (Int × Int)))} (hx : ∀ r, x = some r → x' = some r) (hf : ∀ q l r, f q l = some r → f' q l = some r) (r : Int × Option (List (Int × Int))) (h : rf_yb x f = some r) : rf_yb x' f' = some r := by
  match x, hx, h with
  | none, _, h => cases h
  | some (q, none), hx, h =>
    rw [hx _ rfl]
    exact h
  | some (q, some l), hx, h =>
    rw [hx _ rfl]
    exact hf q l r h
theorem rf_yb_some {x : Option (Int × Option (List (Int × Int)))} {f : Int → List (Int × Int) → Option (Int × Option (List (Int × Int)))} {q : Int} {l : List (Int × Int)} (h : rf_yb x f = some (q, some l)) : ∃ q1 l1, x = some (q1, some l1) ∧ f q1 l1 = some (q, some l) := by
  match x, h with
  | none, h => cases h
  | some (q1, none), h => cases h
  | some (q1, some l1), h => exact ⟨q1, l1, rfl, h⟩
theorem rf_yP_mono1 {t : Int → Int} : ∀ (f nt : Nat) (o p : Int) (r : Int × Option (List (Int × Int))), rf_yP t f nt o p = some r → rf_yP t (f + 1) nt o p = some r
  | 0, _, _, _, _, h => by cases h
  | f + 1, nt, o, p, r, h => by
    have ih := rf_yP_mono1 (t := t) f
    unfold rf_yP at h ⊢
    by_cases c1 : nt < 5
    · rw [if_pos c1] at h ⊢
      exact rf_yb_mono (ih _ _ _) (fun q l => rf_yb_mono (ih _ _ _) (fun _ _ _ h => h)) r h
    · rw [if_neg c1] at h ⊢
      by_cases c2 : nt = 5
      · rw [if_pos c2] at h ⊢
        by_cases c3 : rf_ynam (t p) ≠ -1
        · rw [if_pos c3] at h ⊢
          exact h
        · rw [if_neg c3] at h ⊢
          by_cases c4 : 48 ≤ t p ∧ t p ≤ 57
          · rw [if_pos c4] at h ⊢
            exact h
          · rw [if_neg c4] at h ⊢
            by_cases c5 : t p = 40
            · rw [if_pos c5] at h ⊢
              by_cases c6 : 6 ≤ o
              · rw [if_pos c6] at h ⊢
                exact h
              · rw [if_neg c6] at h ⊢
                exact rf_yb_mono (ih _ _ _) (fun _ _ _ h => h) r h
            · rw [if_neg c5] at h ⊢
              by_cases c6 : t p = 33 ∨ t p = 45
              · rw [if_pos c6] at h ⊢
                by_cases c7 : 6 ≤ o
                · rw [if_pos c7] at h ⊢
                  exact h
                · rw [if_neg c7] at h ⊢
                  exact rf_yb_mono (ih _ _ _) (fun _ _ _ h => h) r h
              · rw [if_neg c6] at h ⊢
                exact h
      · rw [if_neg c2] at h ⊢
        by_cases c3 : rf_ysgn (nt - 6) (t p) = -1
        · rw [if_pos c3] at h ⊢
          exact h
        · rw [if_neg c3] at h ⊢
          refine rf_yb_mono (ih _ _ _) (fun q l r h => ?_) r h
          by_cases c4 : nt = 8
          · rw [if_pos c4] at h ⊢
            exact h
          · rw [if_neg c4] at h ⊢
            exact rf_yb_mono (ih _ _ _) (fun _ _ _ h => h) r h
theorem rf_yP_mono {t : Int → Int} {f nt : Nat} {o p : Int} {r : Int × Option (List (Int × Int))} (h : rf_yP t f nt o p = some r) : ∀ {g : Nat}, f ≤ g → rf_yP t g nt o p = some r := by
  intro g hg
  obtain ⟨d, rfl⟩ : ∃ d, g = f + d := ⟨g - f, by omega⟩
  induction d with
  | zero => exact h
  | succ d ih => exact rf_yP_mono1 _ _ _ _ _ (ih (by omega))
theorem rf_yG_det {t : Int → Int} {nt : Nat} {o p q : Int} {r : Option (List (Int × Int))} (h : rf_yG t nt o p q r) {q' : Int} {r' : Option (List (Int × Int))} (h' : rf_yG t nt o p q' r') : q = q' ∧ r = r' := by
  obtain ⟨f, h⟩ := h
  obtain ⟨f', h'⟩ := h'
  have a := rf_yP_mono h (Nat.le_max_left f f')
  rw [rf_yP_mono h' (Nat.le_max_right f f')] at a
  cases a
  exact ⟨rfl, rfl⟩
theorem rf_yP_lv {t : Int → Int} {f k : Nat} {o p : Int} (hk : k ≤ 4) : rf_yP t (f + 1) (rf_nlv k) o p = rf_yb (rf_yP t f (rf_ysub k) o p) (fun q l => rf_yb (rf_yP t f (rf_nlp k) o q) (fun q' l' => some (q', some (l ++ l')))) := by
  conv => lhs; unfold rf_yP
  rw [if_pos (show rf_nlv k < 5 by unfold rf_nlv; omega)]
  rfl
theorem rf_yP_lp {t : Int → Int} {f k : Nat} {o p : Int} : rf_yP t (f + 1) (rf_nlp k) o p = if rf_ysgn k (t p) = -1 then some (p, some []) else rf_yb (rf_yP t f (rf_ysub k) o (p + 1)) (fun q l => if k = 2 then some (q, some (l ++ [(rf_ysgn k (t p), 0)])) else rf_yb (rf_yP t f (rf_nlp k) o q) (fun q2 l' => some (q2, some (l ++ (rf_ysgn k (t p), 0) :: l')))) := by
  conv => lhs; unfold rf_yP
  rw [if_neg (show ¬ rf_nlp k < 5 by unfold rf_nlp; omega), if_neg (show ¬ rf_nlp k = 5 by unfold rf_nlp; omega), show rf_nlp k - 6 = k by unfold rf_nlp; omega, show rf_nlp k - 5 = rf_ysub k by unfold rf_nlp rf_ysub; omega]
  have e : (rf_nlp k = 8) = (k = 2) := by
    unfold rf_nlp
    exact propext ⟨fun h => by omega, fun h => by omega⟩
  simp only [e]
theorem rf_yP_on {t : Int → Int} {f : Nat} {o p : Int} : rf_yP t (f + 1) rf_non o p = if rf_ynam (t p) ≠ -1 then some (p + 1, some [(1, rf_ynam (t p))])
      else if 48 ≤ t p ∧ t p ≤ 57 then rf_yfg t p
      else if t p = 40 then (if 6 ≤ o then some (p, none) else rf_yb (rf_yP t f (rf_nlv 0) (o + 1) (p + 1)) (fun q l => if t q = 41 then some (q + 1, some l) else some (q, none)))
      else if t p = 33 ∨ t p = 45 then (if 6 ≤ o then some (p, none) else rf_yb (rf_yP t f rf_non (o + 1) (p + 1)) (fun q l => some (q, some (l ++ [(if t p = 33 then 2 else 3, 0)]))))
      else some (p, none) := by
  conv => lhs; unfold rf_yP
  rw [if_neg (by decide), if_pos (show rf_non = 5 from rfl)]
  rfl
section
variable {t : Int → Int} {k : Nat} {o p q q' q1 q2 : Int} {l l' : List (Int × Int)}
theorem rf_yG_lv (hk : k ≤ 4) (h1 : rf_yG t (rf_ysub k) o p q (some l)) (h2 : rf_yG t (rf_nlp k) o q q' (some l')) : rf_yG t (rf_nlv k) o p q' (some (l ++ l')) := by
  obtain ⟨f, h1⟩ := h1
  obtain ⟨g, h2⟩ := h2
  refine ⟨max f g + 1, ?_⟩
  rw [rf_yP_lv hk, rf_yP_mono h1 (Nat.le_max_left f g)]
  show rf_yb (rf_yP t (max f g) (rf_nlp k) o q) _ = _
  rw [rf_yP_mono h2 (Nat.le_max_right f g)]
  rfl
theorem rf_yG_lvx (hk : k ≤ 4) (h1 : rf_yG t (rf_ysub k) o p q (some l)) (h2 : rf_yG t (rf_nlp k) o q q' none) : rf_yG t (rf_nlv k) o p q' none := by
  obtain ⟨f, h1⟩ := h1
  obtain ⟨g, h2⟩ := h2
  refine ⟨max f g + 1, ?_⟩
  rw [rf_yP_lv hk, rf_yP_mono h1 (Nat.le_max_left f g)]
  show rf_yb (rf_yP t (max f g) (rf_nlp k) o q) _ = _
  rw [rf_yP_mono h2 (Nat.le_max_right f g)]
  rfl
theorem rf_yG_lvb (hk : k ≤ 4) (h1 : rf_yG t (rf_ysub k) o p q none) : rf_yG t (rf_nlv k) o p q none := by
  obtain ⟨f, h1⟩ := h1
  exact ⟨f + 1, by rw [rf_yP_lv hk, h1]; rfl⟩
theorem rf_yG_le (_ : k ≤ 4) (hs : rf_ysgn k (t q) = -1) : rf_yG t (rf_nlp k) o q q (some []) := ⟨1, by rw [rf_yP_lp, if_pos hs]⟩
theorem rf_yG_lg (_ : k ≤ 4) (hn : k ≠ 2) (hs : rf_ysgn k (t q) ≠ -1) (h1 : rf_yG t (rf_ysub k) o (q + 1) q1 (some l)) (h2 : rf_yG t (rf_nlp k) o q1 q2 (some l')) : rf_yG t (rf_nlp k) o q q2 (some (l ++ (rf_ysgn k (t q), 0) :: l')) := by
  obtain ⟨f, h1⟩ := h1
  obtain ⟨g, h2⟩ := h2
  refine ⟨max f g + 1, ?_⟩
  rw [rf_yP_lp, if_neg hs, rf_yP_mono h1 (Nat.le_max_left f g)]
  show (if k = 2 then _ else rf_yb (rf_yP t (max f g) (rf_nlp k) o q1) _) = _
  rw [if_neg hn, rf_yP_mono h2 (Nat.le_max_right f g)]
  rfl
theorem rf_yG_lgx (_ : k ≤ 4) (hn : k ≠ 2) (hs : rf_ysgn k (t q) ≠ -1) (h1 : rf_yG t (rf_ysub k) o (q + 1) q1 (some l)) (h2 : rf_yG t (rf_nlp k) o q1 q2 none) : rf_yG t (rf_nlp k) o q q2 none := by
  obtain ⟨f, h1⟩ := h1
  obtain ⟨g, h2⟩ := h2
  refine ⟨max f g + 1, ?_⟩
  rw [rf_yP_lp, if_neg hs, rf_yP_mono h1 (Nat.le_max_left f g)]
  show (if k = 2 then _ else rf_yb (rf_yP t (max f g) (rf_nlp k) o q1) _) = _
  rw [if_neg hn, rf_yP_mono h2 (Nat.le_max_right f g)]
  rfl
theorem rf_yG_l2 (hs : rf_ysgn 2 (t q) ≠ -1) (h1 : rf_yG t (rf_ysub 2) o (q + 1) q1 (some l)) : rf_yG t (rf_nlp 2) o q q1 (some (l ++ [(rf_ysgn 2 (t q), 0)])) := by
  obtain ⟨f, h1⟩ := h1
  exact ⟨f + 1, by rw [rf_yP_lp, if_neg hs, h1]; rfl⟩
theorem rf_yG_lb (_ : k ≤ 4) (hs : rf_ysgn k (t q) ≠ -1) (h1 : rf_yG t (rf_ysub k) o (q + 1) q1 none) : rf_yG t (rf_nlp k) o q q1 none := by
  obtain ⟨f, h1⟩ := h1
  exact ⟨f + 1, by rw [rf_yP_lp, if_neg hs, h1]; rfl⟩
theorem rf_yG_nm (hn : rf_ynam (t p) ≠ -1) : rf_yG t rf_non o p (p + 1) (some [(1, rf_ynam (t p))]) := ⟨1, by rw [rf_yP_on, if_pos hn]⟩
theorem rf_yG_fg (h : rf_ydig (t p)) {r : Int × Option (List (Int × Int))} (e : rf_yfg t p = some r) : rf_yG t rf_non o p r.1 r.2 := ⟨1, by rw [rf_yP_on, if_neg (by rw [rf_ynam_dig h.1 h.2]; simp), if_pos ⟨h.1, h.2⟩, e]⟩
theorem rf_yG_nu {m : Nat} (h1 : 1 ≤ m) (h2 : m ≤ 4) (h3 : ∀ j : Nat, j < m → rf_ydig (t (p + j))) (h4 : ¬ rf_ydig (t (p + m))) : rf_yG t rf_non o p (p + m) (some [(0, rf_yval t p m)]) := by
  have h0 := h3 0 (by omega)
  rw [show p + ((0 : Nat) : Int) = p by omega] at h0
  refine rf_yG_fg (r := (p + m, some [(0, rf_yval t p m)])) h0 ?_
  unfold rf_yfg
  have hc : m = 1 ∨ m = 2 ∨ m = 3 ∨ m = 4 := by omega
  rcases hc with rfl | rfl | rfl | rfl
  · rw [if_pos (fun h => h4 ⟨h.1, h.2⟩)]
    rfl
  · have a := h3 1 (by omega)
    rw [if_neg (fun h => h ⟨a.1, a.2⟩), if_pos (fun h => h4 ⟨h.1, h.2⟩)]
    rfl
  · have a := h3 1 (by omega)
    have b := h3 2 (by omega)
    rw [if_neg (fun h => h ⟨a.1, a.2⟩), if_neg (fun h => h ⟨b.1, b.2⟩), if_pos (fun h => h4 ⟨h.1, h.2⟩)]
    rfl
  · have a := h3 1 (by omega)
    have b := h3 2 (by omega)
    have c := h3 3 (by omega)
    rw [if_neg (fun h => h ⟨a.1, a.2⟩), if_neg (fun h => h ⟨b.1, b.2⟩), if_neg (fun h => h ⟨c.1, c.2⟩), if_pos (fun h => h4 ⟨h.1, h.2⟩)]
    rfl
theorem rf_yG_n5 (h3 : ∀ j : Nat, j ≤ 4 → rf_ydig (t (p + j))) : rf_yG t rf_non o p (p + 4) none := by
  have h0 := h3 0 (by omega)
  rw [show p + ((0 : Nat) : Int) = p by omega] at h0
  refine rf_yG_fg (r := (p + 4, none)) h0 ?_
  unfold rf_yfg
  have a := h3 1 (by omega)
  have b := h3 2 (by omega)
  have c := h3 3 (by omega)
  have d := h3 4 (by omega)
  rw [if_neg (fun h => h ⟨a.1, a.2⟩), if_neg (fun h => h ⟨b.1, b.2⟩), if_neg (fun h => h ⟨c.1, c.2⟩), if_neg (fun h => h ⟨d.1, d.2⟩)]
theorem rf_yG_no (h1 : rf_ynam (t p) = -1) (h2 : ¬ rf_ydig (t p)) (h3 : t p ≠ 40) (h4 : t p ≠ 33) (h5 : t p ≠ 45) : rf_yG t rf_non o p p none :=
  ⟨1, by rw [rf_yP_on, if_neg (by simpa using h1), if_neg (fun h => h2 ⟨h.1, h.2⟩), if_neg h3, if_neg (by omega)]⟩
theorem rf_yP_op {f : Nat} (h : t p = 40 ∨ t p = 33 ∨ t p = 45) : rf_yP t (f + 1) rf_non o p = if t p = 40 then (if 6 ≤ o then some (p, none) else rf_yb (rf_yP t f (rf_nlv 0) (o + 1) (p + 1)) (fun q l => if t q = 41 then some (q + 1, some l) else some (q, none)))
      else if t p = 33 ∨ t p = 45 then (if 6 ≤ o then some (p, none) else rf_yb (rf_yP t f rf_non (o + 1) (p + 1)) (fun q l => some (q, some (l ++ [(if t p = 33 then 2 else 3, 0)]))))
      else some (p, none) := by
  rw [rf_yP_on, if_neg (by rw [rf_ynam_op h]; simp), if_neg (by omega)]
theorem rf_yG_ob (h1 : 6 ≤ o) (h2 : t p = 40 ∨ t p = 33 ∨ t p = 45) : rf_yG t rf_non o p p none := by
  refine ⟨1, ?_⟩
  rw [rf_yP_op h2]
  by_cases h : t p = 40
  · rw [if_pos h, if_pos h1]
  · rw [if_neg h, if_pos (by omega), if_pos h1]
theorem rf_yG_un (h1 : o < 6) (h2 : t p = 33 ∨ t p = 45) (h3 : rf_yG t rf_non (o + 1) (p + 1) q (some l)) : rf_yG t rf_non o p q (some (l ++ [(if t p = 33 then 2 else 3, 0)])) := by
  obtain ⟨f, h3⟩ := h3
  exact ⟨f + 1, by rw [rf_yP_op (.inr h2), if_neg (by omega), if_pos h2, if_neg (by omega), h3]; rfl⟩
theorem rf_yG_unb (h1 : o < 6) (h2 : t p = 33 ∨ t p = 45) (h3 : rf_yG t rf_non (o + 1) (p + 1) q none) : rf_yG t rf_non o p q none := by
  obtain ⟨f, h3⟩ := h3
  exact ⟨f + 1, by rw [rf_yP_op (.inr h2), if_neg (by omega), if_pos h2, if_neg (by omega), h3]; rfl⟩
theorem rf_yG_pa (h1 : o < 6) (h2 : t p = 40) (h3 : rf_yG t (rf_nlv 0) (o + 1) (p + 1) q (some l)) (h4 : t q = 41) : rf_yG t rf_non o p (q + 1) (some l) := by
  obtain ⟨f, h3⟩ := h3
  exact ⟨f + 1, by rw [rf_yP_op (.inl h2), if_pos h2, if_neg (by omega), h3]; exact if_pos h4⟩
theorem rf_yG_pax (h1 : o < 6) (h2 : t p = 40) (h3 : rf_yG t (rf_nlv 0) (o + 1) (p + 1) q (some l)) (h4 : t q ≠ 41) : rf_yG t rf_non o p q none := by
  obtain ⟨f, h3⟩ := h3
  exact ⟨f + 1, by rw [rf_yP_op (.inl h2), if_pos h2, if_neg (by omega), h3]; exact if_neg h4⟩
theorem rf_yG_pab (h1 : o < 6) (h2 : t p = 40) (h3 : rf_yG t (rf_nlv 0) (o + 1) (p + 1) q none) : rf_yG t rf_non o p q none := by
  obtain ⟨f, h3⟩ := h3
  exact ⟨f + 1, by rw [rf_yP_op (.inl h2), if_pos h2, if_neg (by omega), h3]; rfl⟩
end
theorem rf_yLk_det {t : Int → Int} {p q q' : Int} (h : rf_yLk t p q) (h' : rf_yLk t p q') : q = q' := by
  obtain ⟨q1, l1, a, b⟩ := h
  obtain ⟨q2, l2, a', b'⟩ := h'
  obtain ⟨rfl, -⟩ := rf_yG_det a a'
  rcases b with ⟨b1, b2⟩ | ⟨b1, l3, b2⟩ <;> rcases b' with ⟨c1, c2⟩ | ⟨c1, l4, c2⟩
  · omega
  · exact absurd c1 b1
  · exact absurd b1 c1
  · exact (rf_yG_det b2 c2).1
theorem rf_yLb_det {t : Int → Int} {p q q' : Int} (h : rf_yLb t p q) (h' : rf_yLb t p q') : q = q' := by
  rcases h with h | ⟨q1, l1, a, b, c⟩ <;> rcases h' with h' | ⟨q2, l2, a', b', c'⟩
  · exact (rf_yG_det h h').1
  · exact absurd (rf_yG_det h a').2 (by simp)
  · exact absurd (rf_yG_det a h').2 (by simp)
  · obtain ⟨rfl, -⟩ := rf_yG_det a a'
    exact (rf_yG_det c c').1
theorem rf_yLkb {t : Int → Int} {p q q' : Int} (h : rf_yLk t p q) (h' : rf_yLb t p q') : False := by
  obtain ⟨q1, l1, a, b⟩ := h
  rcases h' with h' | ⟨q2, l2, a', b', c'⟩
  · exact absurd (rf_yG_det a h').2 (by simp)
  · obtain ⟨rfl, -⟩ := rf_yG_det a a'
    rcases b with ⟨b1, b2⟩ | ⟨b1, l3, b2⟩
    · exact b1 b'
    · exact absurd (rf_yG_det b2 c').2 (by simp)
section
variable {t : Int → Int} {n p q : Int} {r : Option Int}
theorem rf_yT_ok (h1 : rf_yLk t p q) (h2 : n ≤ q) : rf_yT t n p none := ⟨1, Or.inl ⟨q, h1, h2, rfl⟩⟩
theorem rf_yT_go (h1 : rf_yLk t p q) (h2 : q < n) (h3 : t q = 59) (h4 : rf_yT t n (q + 1) r) : rf_yT t n p r := by
  obtain ⟨f, h4⟩ := h4
  exact ⟨f + 1, Or.inr (Or.inl ⟨q, h1, h2, h3, h4⟩)⟩
theorem rf_yT_bx (h1 : rf_yLk t p q) (h2 : q < n) (h3 : t q ≠ 59) : rf_yT t n p (some q) := ⟨1, Or.inr (Or.inr (Or.inl ⟨q, h1, h2, h3, rfl⟩))⟩
theorem rf_yT_bl (h1 : rf_yLb t p q) : rf_yT t n p (some q) := ⟨1, Or.inr (Or.inr (Or.inr ⟨q, h1, rfl⟩))⟩
end
theorem rf_yTf_det {t : Int → Int} {n : Int} : ∀ (f f' : Nat) (p : Int) (r r' : Option Int), rf_yTf t n f p r → rf_yTf t n f' p r' → r = r'
  | 0, _, _, _, _, h, _ => h.elim
  | _ + 1, 0, _, _, _, _, h => h.elim
  | f + 1, f' + 1, p, r, r', h, h' => by
    rcases h with ⟨q, a1, a2, rfl⟩ | ⟨q, a1, a2, a3, a4⟩ | ⟨q, a1, a2, a3, rfl⟩ | ⟨q, a1, rfl⟩ <;> rcases h' with ⟨q', b1, b2, rfl⟩ | ⟨q', b1, b2, b3, b4⟩ | ⟨q', b1, b2, b3, rfl⟩ | ⟨q', b1, rfl⟩
    · rfl
    · have := rf_yLk_det a1 b1; omega
    · have := rf_yLk_det a1 b1; omega
    · exact (rf_yLkb a1 b1).elim
    · have := rf_yLk_det a1 b1; omega
    · obtain rfl := rf_yLk_det a1 b1
      exact rf_yTf_det f f' _ _ _ a4 b4
    · obtain rfl := rf_yLk_det a1 b1
      exact absurd a3 b3
    · exact (rf_yLkb a1 b1).elim
    · have := rf_yLk_det a1 b1; omega
    · obtain rfl := rf_yLk_det a1 b1
      exact absurd b3 a3
    · rw [rf_yLk_det a1 b1]
    · exact (rf_yLkb a1 b1).elim
    · exact (rf_yLkb b1 a1).elim
    · exact (rf_yLkb b1 a1).elim
    · exact (rf_yLkb b1 a1).elim
    · rw [rf_yLb_det a1 b1]
theorem rf_yT_det {t : Int → Int} {n p : Int} {r : Option Int} (h : rf_yT t n p r) {r' : Option Int} (h' : rf_yT t n p r') : r = r' := by
  obtain ⟨f, h⟩ := h
  obtain ⟨f', h'⟩ := h'
  exact rf_yTf_det f f' p r r' h h'
theorem rf_ysgn_0 (k : Nat) : rf_ysgn k 0 = -1 := by
  match k with
  | 0 => rfl
  | 1 => rfl
  | 2 => rfl
  | 3 => rfl
  | 4 => rfl
  | _ + 5 => rfl
theorem rf_ysgn_dig (k : Nat) {c : Int} (h : rf_ydig c) : rf_ysgn k c = -1 := by
  obtain ⟨h1, h2⟩ := h
  match k with
  | 0 =>
    show (if c = 124 then (6 : Int) else -1) = -1
    rw [if_neg (by omega)]
  | 1 =>
    show (if c = 38 then (7 : Int) else -1) = -1
    rw [if_neg (by omega)]
  | 2 =>
    show (if c = 60 then (8 : Int) else if c = 61 then (9 : Int) else if c = 62 then (10 : Int) else -1) = -1
    rw [if_neg (by omega), if_neg (by omega), if_neg (by omega)]
  | 3 =>
    show (if c = 43 then (11 : Int) else if c = 45 then (12 : Int) else -1) = -1
    rw [if_neg (by omega), if_neg (by omega)]
  | 4 =>
    show (if c = 42 then (13 : Int) else if c = 47 then (14 : Int) else if c = 37 then (15 : Int) else -1) = -1
    rw [if_neg (by omega), if_neg (by omega), if_neg (by omega)]
  | _ + 5 => rfl
theorem rf_ynt_lv {k : Int} (h : k ≤ 4) : rf_ynt k = rf_nlv k.toNat := rfl
theorem rf_ynt_sub {k : Int} (h0 : 0 ≤ k) (h4 : k ≤ 4) : rf_ynt (k + 1) = rf_ysub k.toNat := by
  unfold rf_ynt rf_ysub
  omega
theorem rf_yno {t : Int → Int} {o p x : Int} (e : t p = x) (h : x ≠ 33 ∧ x ≠ 40 ∧ x ≠ 45 ∧ ¬ (48 ≤ x ∧ x ≤ 57) ∧ x ≠ 98 ∧ x ≠ 102 ∧ x ≠ 107 ∧ x ≠ 111 ∧ x ≠ 115 ∧ x ≠ 116) : rf_yG t rf_non o p p none := by
  have hn : rf_ynam (t p) = -1 := by
    rw [e]
    unfold rf_ynam
    rw [if_neg h.2.2.2.2.2.1, if_neg h.2.2.2.2.2.2.2.1, if_neg h.2.2.2.2.2.2.2.2.2, if_neg h.2.2.2.2.1, if_neg h.2.2.2.2.2.2.2.2.1, if_neg h.2.2.2.2.2.2.1]
  refine rf_yG_no hn ?_ ?_ ?_ ?_
  · rw [e]
    exact fun hd => h.2.2.2.1 ⟨hd.1, hd.2⟩
  · rw [e]
    exact h.2.1
  · rw [e]
    exact h.1
  · rw [e]
    exact h.2.2.1
theorem rf_yst1_0 {t : Int → Int} {k o p q : Int} {l : List (Int × Int)} (h4 : k.toNat ≤ 4) (h : rf_yG t (rf_ysub k.toNat) o p q (some l)) : rf_yst1 t k o p q :=
  ⟨l, fun _ _ g => rf_yG_lv h4 h g, fun _ g => rf_yG_lvx h4 h g⟩
theorem rf_yst1_go {t : Int → Int} {k o p c q : Int} {l : List (Int × Int)} (h4 : k.toNat ≤ 4) (h2 : k.toNat ≠ 2) (a : rf_yst1 t k o p c) (b : rf_ysgn k.toNat (t c) ≠ -1) (h : rf_yG t (rf_ysub k.toNat) o (c + 1) q (some l)) : rf_yst1 t k o p q := by
  obtain ⟨acc, f, g⟩ := a
  refine ⟨acc ++ l ++ [(rf_ysgn k.toNat (t c), 0)], fun r l' hr => ?_, fun r hr => g r (rf_yG_lgx h4 h2 b h hr)⟩
  have := f r _ (rf_yG_lg h4 h2 b h hr)
  rw [List.append_assoc, List.append_assoc]
  exact this
theorem rf_yst1_bad {t : Int → Int} {k : Int} {o p c q : Int} (h4 : k.toNat ≤ 4) (a : rf_yst1 t k o p c) (b : rf_ysgn k.toNat (t c) ≠ -1) (h : rf_yG t (rf_ysub k.toNat) o (c + 1) q none) : rf_yG t (rf_nlv k.toNat) o p q none := by
  obtain ⟨acc, f, g⟩ := a
  exact g q (rf_yG_lb h4 b h)
theorem rf_yst1_end {t : Int → Int} {k o p c : Int} (h4 : k.toNat ≤ 4) (a : rf_yst1 t k o p c) (b : rf_ysgn k.toNat (t c) = -1) : ∃ l, rf_yG t (rf_nlv k.toNat) o p c (some l) := by
  obtain ⟨acc, f, g⟩ := a
  exact ⟨_, f c _ (rf_yG_le h4 b)⟩
theorem rf_yst1_two {t : Int → Int} {o p c q : Int} {l : List (Int × Int)} (a : rf_yst1 t 2 o p c) (b : rf_ysgn 2 (t c) ≠ -1) (h : rf_yG t (rf_ysub 2) o (c + 1) q (some l)) : ∃ l, rf_yG t (rf_nlv 2) o p q (some l) := by
  obtain ⟨acc, f, g⟩ := a
  exact ⟨_, f q _ (rf_yG_l2 b h)⟩
theorem rf_ybm8 (v : Int) : v.bmod (2 ^ 8) = if v % 256 < 128 then v % 256 else v % 256 - 256 := by
  simp only [Int.bmod]
  rfl
theorem rf_ynr_r (v : Int) : -128 ≤ v.bmod (2 ^ 8) ∧ v.bmod (2 ^ 8) ≤ 127 := by
  rw [rf_ybm8]
  split <;> omega
theorem rf_ynr_b {v : Int} (h1 : 0 ≤ v) (h2 : v ≤ 255) : rf_ynr v = rf_ynr (v.bmod (2 ^ 8)) := by
  rw [rf_ybm8]
  unfold rf_ynr
  by_cases h : v ≤ 127
  · rw [show v % 256 = v by omega, if_pos (show v < 128 by omega)]
  · rw [if_neg (show ¬ (1 ≤ v ∧ v ≤ 127) by omega), if_neg (show ¬ v % 256 < 128 by omega), if_neg (by omega)]
theorem rf_ytc_eq {g h n : Int} (a : ∀ j : Nat, (j : Int) < n → rf_ynr (rf_dc j g) = rf_ynr (rf_dc j h)) : rf_ytc g n = rf_ytc h n := by
  funext p
  unfold rf_ytc
  by_cases hp : 0 ≤ p ∧ p < n
  · rw [if_pos hp, if_pos hp]
    exact a _ (by omega)
  · rw [if_neg hp, if_neg hp]
theorem rf_yshr (a : Int) (h1 : -2147483648 ≤ a) (h2 : a ≤ 2147483647) : (Int32.ofInt a >>> (Int32.ofInt 0 &&& 31)).toInt = a := by
  have e : (Int32.ofInt 0 &&& 31) = 0 := by decide
  rw [e, Int32.shiftRight_zero]
  exact Int32.toInt_ofInt_of_le (by simpa using h1) (by simpa using (by omega : a < 2147483648))
theorem rf_dc_up_ne : ∀ {i j : Nat} {v g : Int}, j ≠ i → rf_dc j (rf_up i v g) = rf_dc j g
  | 0, 0, _, _, h => absurd rfl h
  | 0, j + 1, v, g, _ => by
    show rf_dc j ((v % 18446744073709551616 + 18446744073709551616 * (g / 18446744073709551616)) / 18446744073709551616) = rf_dc j (g / 18446744073709551616)
    congr 1
    omega
  | i + 1, 0, v, g, _ => by
    show rf_sd ((g % 18446744073709551616 + 18446744073709551616 * rf_up i v (g / 18446744073709551616)) % 18446744073709551616) = rf_sd (g % 18446744073709551616)
    congr 1
    omega
  | i + 1, j + 1, v, g, h => by
    show rf_dc j ((g % 18446744073709551616 + 18446744073709551616 * rf_up i v (g / 18446744073709551616)) / 18446744073709551616) = rf_dc j (g / 18446744073709551616)
    have e : (g % 18446744073709551616 + 18446744073709551616 * rf_up i v (g / 18446744073709551616)) / 18446744073709551616 = rf_up i v (g / 18446744073709551616) := by omega
    rw [e]
    exact rf_dc_up_ne (by omega)
theorem rf_ybl_trans {S2 S1 S0 d d' : Int} (a : rf_ybl S2 S1 d) (b : rf_ybl S1 S0 d') (h : d' ≤ d) : rf_ybl S2 S0 d' :=
  fun j hj => (a j (by omega)).trans (b j hj)
theorem rf_yec_bl {S1 S0 : Int} : ∀ (l : List (Int × Int)) (d e : Int), 0 ≤ d → d + l.length ≤ e → rf_ybl S1 S0 e → rf_yec S0 d l → rf_yec S1 d l
  | [], _, _, _, _, _, _ => trivial
  | (s, v) :: l, d, e, h0, h1, hb, h => by
    simp only [List.length_cons] at h1
    refine ⟨?_, rf_yec_bl l (d + 1) e (by omega) (by omega) hb h.2⟩
    rw [hb d.toNat (by omega)]
    exact h.1
theorem rf_yec_app {S : Int} : ∀ (l l' : List (Int × Int)) (d : Int), rf_yec S d l → rf_yec S (d + l.length) l' → rf_yec S d (l ++ l')
  | [], l', d, _, h => by simpa using h
  | (s, v) :: l, l', d, h, h' => by
    refine ⟨h.1, rf_yec_app l l' (d + 1) h.2 ?_⟩
    simp only [List.length_cons] at h'
    rw [show d + 1 + (l.length : Int) = d + ((l.length + 1 : Nat) : Int) by omega]
    exact h'
theorem rf_yE_nil {S d : Int} (h : 0 ≤ d) : rf_yE [] S d S d := ⟨h, by simp, trivial, fun _ _ => rfl⟩
theorem rf_yE_app {l l' : List (Int × Int)} {S0 d0 S1 d1 S2 d2 : Int} (a : rf_yE l S0 d0 S1 d1) (b : rf_yE l' S1 d1 S2 d2) : rf_yE (l ++ l') S0 d0 S2 d2 := by
  obtain ⟨a1, a2, a3, a4⟩ := a
  obtain ⟨b1, b2, b3, b4⟩ := b
  refine ⟨a1, by simp only [List.length_append]; omega, ?_, rf_ybl_trans b4 a4 (by omega)⟩
  refine rf_yec_app l l' d0 (rf_yec_bl l d0 d1 a1 (by omega) b4 a3) ?_
  rw [← a2]
  exact b3
theorem rf_yE_one {s v S0 d S1 x : Int} (h : 0 ≤ d) (e : S1 = rf_up d.toNat x S0) (hx : x = s * 16384 + v) (r1 : -9223372036854775808 ≤ x) (r2 : x ≤ 9223372036854775807) : rf_yE [(s, v)] S0 d S1 (d + 1) := by
  refine ⟨h, by simp, ⟨?_, trivial⟩, fun j hj => ?_⟩
  · rw [e, rf_dc_up r1 r2, if_pos rfl]
    exact hx
  · rw [e, rf_dc_up r1 r2, if_neg (by omega)]
theorem rf_yer_bl {A1 W1 A0 W0 : Int} : ∀ (l : List (Int × Int)) (d e : Int), 0 ≤ d → d + l.length ≤ e → rf_ybl A1 A0 e → rf_ybl W1 W0 e → rf_yer A0 W0 d l → rf_yer A1 W1 d l
  | [], _, _, _, _, _, _, _ => trivial
  | (s, v) :: l, d, e, h0, h1, ha, hw, h => by
    simp only [List.length_cons] at h1
    refine ⟨?_, ?_, rf_yer_bl l (d + 1) e (by omega) (by omega) ha hw h.2.2⟩
    · rw [ha d.toNat (by omega)]
      exact h.1
    · rw [hw d.toNat (by omega)]
      exact h.2.1
theorem rf_yer_app {A W : Int} : ∀ (l l' : List (Int × Int)) (d : Int), rf_yer A W d l → rf_yer A W (d + l.length) l' → rf_yer A W d (l ++ l')
  | [], l', d, _, h => by simpa using h
  | (s, v) :: l, l', d, h, h' => by
    refine ⟨h.1, h.2.1, rf_yer_app l l' (d + 1) h.2.2 ?_⟩
    simp only [List.length_cons] at h'
    rw [show d + 1 + (l.length : Int) = d + ((l.length + 1 : Nat) : Int) by omega]
    exact h'
theorem rf_yR_app {l l' : List (Int × Int)} {A0 W0 l0 A1 W1 l1 A2 W2 l2 : Int} (a : rf_yR l A0 W0 l0 A1 W1 l1) (b : rf_yR l' A1 W1 l1 A2 W2 l2) : rf_yR (l ++ l') A0 W0 l0 A2 W2 l2 := by
  obtain ⟨a1, a2, a3, a4, a5⟩ := a
  obtain ⟨b1, b2, b3, b4, b5⟩ := b
  refine ⟨a1, by simp only [List.length_append]; omega, ?_, rf_ybl_trans b4 a4 (by omega), rf_ybl_trans b5 a5 (by omega)⟩
  refine rf_yer_app l l' (130 + l0) (rf_yer_bl l (130 + l0) (130 + l1) (by omega) (by omega) b4 b5 a3) ?_
  rw [show 130 + l0 + (l.length : Int) = 130 + l1 by omega]
  exact b3
theorem rf_yR_one {s v A0 W0 l0 A1 W1 x : Int} (h : 0 ≤ l0) (ea : A1 = rf_up (l0 + 130).toNat x A0) (ew : W1 = rf_up (l0 + 130).toNat v W0) (hx : x = rf_yac s) (r1 : -9223372036854775808 ≤ v) (r2 : v ≤ 9223372036854775807) (x1 : -128 ≤ x) (x2 : x ≤ 127) : rf_yR [(s, v)] A0 W0 l0 A1 W1 (l0 + 1) := by
  refine ⟨h, by simp, ⟨?_, ?_, trivial⟩, fun j hj => ?_, fun j hj => ?_⟩
  · rw [ea, rf_dc_up (by omega) (by omega), if_pos (by omega)]
    exact hx
  · rw [ew, rf_dc_up r1 r2, if_pos (by omega)]
  · rw [ea, rf_dc_up (by omega) (by omega), if_neg (by omega)]
  · rw [ew, rf_dc_up r1 r2, if_neg (by omega)]
theorem rf_yst2_0 {t : Int → Int} {k o p q : Int} {l : List (Int × Int)} (h4 : k.toNat ≤ 4) (h : rf_yG t (rf_ysub k.toNat) o p q (some l)) : rf_yst2 t k o p q l :=
  ⟨fun _ _ g => rf_yG_lv h4 h g, fun _ g => rf_yG_lvx h4 h g⟩
theorem rf_yst2_end {t : Int → Int} {k o p c : Int} {l : List (Int × Int)} (h4 : k.toNat ≤ 4) (a : rf_yst2 t k o p c l) (b : rf_ysgn k.toNat (t c) = -1) : rf_yG t (rf_nlv k.toNat) o p c (some l) := by
  have := a.1 c [] (rf_yG_le h4 b)
  rwa [List.append_nil] at this
theorem rf_yst2_bad {t : Int → Int} {k o p c q : Int} {l : List (Int × Int)} (h4 : k.toNat ≤ 4) (a : rf_yst2 t k o p c l) (b : rf_ysgn k.toNat (t c) ≠ -1) (h : rf_yG t (rf_ysub k.toNat) o (c + 1) q none) : rf_yG t (rf_nlv k.toNat) o p q none :=
  a.2 q (rf_yG_lb h4 b h)
theorem rf_yst2_go {t : Int → Int} {k o p c q s : Int} {l l' : List (Int × Int)} (h4 : k.toNat ≤ 4) (h2 : k.toNat ≠ 2) (a : rf_yst2 t k o p c l) (e : rf_ysgn k.toNat (t c) = s) (b : rf_ysgn k.toNat (t c) ≠ -1) (h : rf_yG t (rf_ysub k.toNat) o (c + 1) q (some l')) : rf_yst2 t k o p q (l ++ (l' ++ [(s, 0)])) := by
  refine ⟨fun r l2 hr => ?_, fun r hr => a.2 r (rf_yG_lgx h4 h2 b h hr)⟩
  have := a.1 r _ (rf_yG_lg h4 h2 b h hr)
  rw [e] at this
  rw [List.append_assoc, List.append_assoc]
  exact this
theorem rf_yst2_two {t : Int → Int} {o p c q s : Int} {l l' : List (Int × Int)} (a : rf_yst2 t 2 o p c l) (e : rf_ysgn 2 (t c) = s) (b : rf_ysgn 2 (t c) ≠ -1) (h : rf_yG t (rf_ysub 2) o (c + 1) q (some l')) : rf_yG t (rf_nlv 2) o p q (some (l ++ (l' ++ [(s, 0)]))) := by
  have := a.1 q _ (rf_yG_l2 b h)
  rw [e] at this
  exact this
theorem rf_yLL_k {t : Int → Int} {p q : Int} {a : Option (List (Int × Int))} {v : List (Int × Int)} (h : rf_yLL t p q a v) : rf_yLk t p q := by
  rcases h with ⟨-, h1, h2⟩ | ⟨l, q1, -, h1, h2, h3⟩
  · exact ⟨q, v, h1, Or.inl ⟨h2, rfl⟩⟩
  · exact ⟨q1, l, h1, Or.inr ⟨h2, v, h3⟩⟩
theorem rf_yU_ok {t : Int → Int} {n p q : Int} {a : Option (List (Int × Int))} {v : List (Int × Int)} (h1 : rf_yLL t p q a v) (h2 : n ≤ q) : rf_yU t n p [(a, v)] := ⟨q, h1, h2⟩
theorem rf_yU_go {t : Int → Int} {n p q : Int} {a : Option (List (Int × Int))} {v : List (Int × Int)} {ls : List (Option (List (Int × Int)) × List (Int × Int))} (h1 : rf_yLL t p q a v) (h2 : q < n) (h3 : t q = 59) (h4 : rf_yU t n (q + 1) ls) : rf_yU t n p ((a, v) :: ls) := by
  match ls, h4 with
  | y :: ls, h4 => exact ⟨q, h1, h2, h3, h4⟩
theorem rf_yU_T {t : Int → Int} {n : Int} : ∀ {p : Int} {ls : List (Option (List (Int × Int)) × List (Int × Int))}, rf_yU t n p ls → rf_yT t n p none
  | _, [], h => h.elim
  | _, [x], ⟨_, h1, h2⟩ => rf_yT_ok (rf_yLL_k h1) h2
  | _, x :: y :: ls, ⟨_, h1, h2, h3, h4⟩ => rf_yT_go (rf_yLL_k h1) h2 h3 (rf_yU_T h4)
theorem rf_yLL_det {t : Int → Int} {p q q' : Int} {a a' : Option (List (Int × Int))} {v v' : List (Int × Int)} (h : rf_yLL t p q a v) (h' : rf_yLL t p q' a' v') : q = q' ∧ a = a' ∧ v = v' := by
  rcases h with ⟨rfl, h1, h2⟩ | ⟨l, q1, rfl, h1, h2, h3⟩ <;> rcases h' with ⟨rfl, g1, g2⟩ | ⟨l', q1', rfl, g1, g2, g3⟩
  · obtain ⟨rfl, e⟩ := rf_yG_det h1 g1
    cases e
    exact ⟨rfl, rfl, rfl⟩
  · obtain ⟨rfl, e⟩ := rf_yG_det h1 g1
    exact absurd g2 h2
  · obtain ⟨rfl, e⟩ := rf_yG_det h1 g1
    exact absurd h2 g2
  · obtain ⟨rfl, e⟩ := rf_yG_det h1 g1
    cases e
    obtain ⟨rfl, e⟩ := rf_yG_det h3 g3
    cases e
    exact ⟨rfl, rfl, rfl⟩
theorem rf_yU_det {t : Int → Int} {n : Int} : ∀ {p : Int} {ls ls' : List (Option (List (Int × Int)) × List (Int × Int))}, rf_yU t n p ls → rf_yU t n p ls' → ls = ls'
  | _, [], _, h, _ => h.elim
  | _, _ :: _, [], _, h => h.elim
  | _, [x], [x'], ⟨q, h1, h2⟩, ⟨q', g1, g2⟩ => by
    obtain ⟨-, e1, e2⟩ := rf_yLL_det h1 g1
    rw [show x = x' from Prod.ext e1 e2]
  | _, [x], x' :: y' :: ls', ⟨q, h1, h2⟩, ⟨q', g1, g2, g3, g4⟩ => by
    have := (rf_yLL_det h1 g1).1
    omega
  | _, x :: y :: ls, [x'], ⟨q, h1, h2, h3, h4⟩, ⟨q', g1, g2⟩ => by
    have := (rf_yLL_det h1 g1).1
    omega
  | _, x :: y :: ls, x' :: y' :: ls', ⟨q, h1, h2, h3, h4⟩, ⟨q', g1, g2, g3, g4⟩ => by
    obtain ⟨rfl, e1, e2⟩ := rf_yLL_det h1 g1
    rw [show x = x' from Prod.ext e1 e2, rf_yU_det h4 g4]
theorem rf_yLC_le {S : Int} : ∀ (ls : List (Option (List (Int × Int)) × List (Int × Int))) (d e : Int), rf_yLC S d ls e → d ≤ e
  | [], d, e, h => by
    have : e = d := h
    omega
  | (none, v) :: ls, d, e, h => by
    have := rf_yLC_le ls _ e h.2.2
    omega
  | (some a, v) :: ls, d, e, h => by
    have := rf_yLC_le ls _ e h.2.2.2.2
    omega
theorem rf_yLC_bl {S1 S0 : Int} : ∀ (ls : List (Option (List (Int × Int)) × List (Int × Int))) (d e f : Int), 0 ≤ d → e ≤ f → rf_ybl S1 S0 f → rf_yLC S0 d ls e → rf_yLC S1 d ls e
  | [], _, _, _, _, _, _, h => h
  | (none, v) :: ls, d, e, f, h0, h1, hb, h => by
    have hl := rf_yLC_le ls _ e h.2.2
    refine ⟨rf_yec_bl v d f h0 (by omega) hb h.1, ?_, rf_yLC_bl ls _ e f (by omega) h1 hb h.2.2⟩
    rw [hb _ (by omega)]
    exact h.2.1
  | (some a, v) :: ls, d, e, f, h0, h1, hb, h => by
    have hl := rf_yLC_le ls _ e h.2.2.2.2
    refine ⟨rf_yec_bl a d f h0 (by omega) hb h.1, ?_, rf_yec_bl v _ f (by omega) (by omega) hb h.2.2.1, ?_, rf_yLC_bl ls _ e f (by omega) h1 hb h.2.2.2.2⟩
    · rw [hb _ (by omega)]
      exact h.2.1
    · rw [hb _ (by omega)]
      exact h.2.2.2.1
theorem rf_yLC_app {S : Int} {x : List (Option (List (Int × Int)) × List (Int × Int))} {f : Int} : ∀ (ls : List (Option (List (Int × Int)) × List (Int × Int))) (d e : Int), rf_yLC S d ls e → rf_yLC S e x f → rf_yLC S d (ls ++ x) f
  | [], d, e, h, g => by
    have : e = d := h
    subst this
    exact g
  | (none, v) :: ls, d, e, h, g => ⟨h.1, h.2.1, rf_yLC_app ls _ e h.2.2 g⟩
  | (some a, v) :: ls, d, e, h, g => ⟨h.1, h.2.1, h.2.2.1, h.2.2.2.1, rf_yLC_app ls _ e h.2.2.2.2 g⟩
theorem rf_yec_bl2 {S1 S0 : Int} : ∀ (l : List (Int × Int)) (d e : Int), 0 ≤ d → d + l.length ≤ e → (∀ j : Nat, d ≤ (j : Int) → (j : Int) < e → rf_dc j S1 = rf_dc j S0) → rf_yec S0 d l → rf_yec S1 d l
  | [], _, _, _, _, _, _ => trivial
  | (s, v) :: l, d, e, h0, h1, hb, h => by
    simp only [List.length_cons] at h1
    refine ⟨?_, rf_yec_bl2 l (d + 1) e (by omega) (by omega) (fun j a b => hb j (by omega) b) h.2⟩
    rw [hb d.toNat (by omega) (by omega)]
    exact h.1
theorem rf_yLR_le {A W T U b : Int} : ∀ (ls : List (Option (List (Int × Int)) × List (Int × Int))) (m s e : Int), rf_yLR A W T U b m s ls e → s ≤ e
  | [], _, s, e, h => by
    have : e = s := h
    omega
  | (none, v) :: ls, m, s, e, h => by
    have := rf_yLR_le ls _ _ e h.2.2.2
    omega
  | (some a, v) :: ls, m, s, e, h => by
    have := rf_yLR_le ls _ _ e h.2.2.2.2
    omega
theorem rf_yLR_bl {A1 W1 T1 U1 A0 W0 T0 U0 b : Int} (hb : 0 ≤ b) : ∀ (ls : List (Option (List (Int × Int)) × List (Int × Int))) (m s e f g : Int), 0 ≤ m → 0 ≤ s → b + e ≤ f → m + ls.length ≤ g → rf_ybl A1 A0 f → rf_ybl W1 W0 f → rf_ybl T1 T0 g → rf_ybl U1 U0 g → rf_yLR A0 W0 T0 U0 b m s ls e → rf_yLR A1 W1 T1 U1 b m s ls e
  | [], _, _, _, _, _, _, _, _, _, _, _, _, _, h => h
  | (none, v) :: ls, m, s, e, f, g, hm, hs, h1, h2, ha, hw, ht, hu, h => by
    simp only [List.length_cons] at h2
    have hl := rf_yLR_le ls _ _ e h.2.2.2
    refine ⟨?_, ?_, rf_yer_bl v (b + s) f (by omega) (by omega) ha hw h.2.2.1, rf_yLR_bl hb ls _ _ e f g (by omega) (by omega) h1 (by omega) ha hw ht hu h.2.2.2⟩
    · rw [ht _ (by omega)]
      exact h.1
    · rw [hu _ (by omega)]
      exact h.2.1
  | (some a, v) :: ls, m, s, e, f, g, hm, hs, h1, h2, ha, hw, ht, hu, h => by
    simp only [List.length_cons] at h2
    have hl := rf_yLR_le ls _ _ e h.2.2.2.2
    refine ⟨?_, ?_, rf_yer_bl a (b + s) f (by omega) (by omega) ha hw h.2.2.1, rf_yer_bl v (b + s + a.length) f (by omega) (by omega) ha hw h.2.2.2.1, rf_yLR_bl hb ls _ _ e f g (by omega) (by omega) h1 (by omega) ha hw ht hu h.2.2.2.2⟩
    · rw [ht _ (by omega)]
      exact h.1
    · rw [hu _ (by omega)]
      exact h.2.1
theorem rf_yLR_app {A W T U b : Int} {x : List (Option (List (Int × Int)) × List (Int × Int))} {f : Int} : ∀ (ls : List (Option (List (Int × Int)) × List (Int × Int))) (m s e : Int), rf_yLR A W T U b m s ls e → rf_yLR A W T U b (m + ls.length) e x f → rf_yLR A W T U b m s (ls ++ x) f
  | [], m, s, e, h, g => by
    have he : e = s := h
    subst he
    simpa using g
  | (none, v) :: ls, m, s, e, h, g => by
    simp only [List.length_cons] at g
    refine ⟨h.1, h.2.1, h.2.2.1, rf_yLR_app ls _ _ e h.2.2.2 ?_⟩
    rw [show m + 1 + (ls.length : Int) = m + ((ls.length + 1 : Nat) : Int) by omega]
    exact g
  | (some a, v) :: ls, m, s, e, h, g => by
    simp only [List.length_cons] at g
    refine ⟨h.1, h.2.1, h.2.2.1, h.2.2.2.1, rf_yLR_app ls _ _ e h.2.2.2.2 ?_⟩
    rw [show m + 1 + (ls.length : Int) = m + ((ls.length + 1 : Nat) : Int) by omega]
    exact g
theorem rf_yer_sh {A1 W1 A0 W0 b : Int} (hb : 0 ≤ b) : ∀ (l : List (Int × Int)) (d e : Int), 0 ≤ d → d + l.length ≤ e → (∀ j : Nat, (j : Int) < e → rf_dc j A1 = rf_dc (b + j).toNat A0 ∧ rf_dc j W1 = rf_dc (b + j).toNat W0) → rf_yer A0 W0 (b + d) l → rf_yer A1 W1 d l
  | [], _, _, _, _, _, _ => trivial
  | (s, v) :: l, d, e, h0, h1, hc, h => by
    simp only [List.length_cons] at h1
    have c := hc d.toNat (by omega)
    rw [show b + (d.toNat : Int) = b + d by omega] at c
    refine ⟨c.1.trans h.1, c.2.trans h.2.1, rf_yer_sh hb l (d + 1) e (by omega) (by omega) hc ?_⟩
    rw [show b + (d + 1) = b + d + 1 by omega]
    exact h.2.2
/-- copied to the beginning: the same lines there -/
theorem rf_yLR_sh {A1 W1 T1 U1 A0 W0 T0 U0 b c : Int} (hb : 0 ≤ b) (hc : 0 ≤ c) : ∀ (ls : List (Option (List (Int × Int)) × List (Int × Int))) (m s e f g : Int), 0 ≤ m → 0 ≤ s → e ≤ f → m + ls.length ≤ g → (∀ j : Nat, (j : Int) < f → rf_dc j A1 = rf_dc (b + j).toNat A0 ∧ rf_dc j W1 = rf_dc (b + j).toNat W0) → (∀ j : Nat, (j : Int) < g → rf_dc j T1 = rf_dc (c + j).toNat T0 ∧ rf_dc j U1 = rf_dc (c + j).toNat U0) → rf_yLR A0 W0 T0 U0 b (c + m) s ls e → rf_yLR A1 W1 T1 U1 0 m s ls e
  | [], _, _, _, _, _, _, _, _, _, _, _, h => h
  | (none, v) :: ls, m, s, e, f, g, hm, hs, h1, h2, ha, ht, h => by
    simp only [List.length_cons] at h2
    have hl := rf_yLR_le ls _ _ e h.2.2.2
    have t := ht m.toNat (by omega)
    rw [show c + (m.toNat : Int) = c + m by omega] at t
    refine ⟨t.1.trans h.1, t.2.trans h.2.1, ?_, ?_⟩
    · rw [show (0 : Int) + s = s by omega]
      exact rf_yer_sh hb v s f hs (by omega) ha h.2.2.1
    · refine rf_yLR_sh hb hc ls _ _ e f g (by omega) (by omega) h1 (by omega) ha ht ?_
      rw [show c + (m + 1) = c + m + 1 by omega]
      exact h.2.2.2
  | (some a, v) :: ls, m, s, e, f, g, hm, hs, h1, h2, ha, ht, h => by
    simp only [List.length_cons] at h2
    have hl := rf_yLR_le ls _ _ e h.2.2.2.2
    have t := ht m.toNat (by omega)
    rw [show c + (m.toNat : Int) = c + m by omega] at t
    refine ⟨t.1.trans h.1, t.2.trans h.2.1, ?_, ?_, ?_⟩
    · rw [show (0 : Int) + s = s by omega]
      exact rf_yer_sh hb a s f hs (by omega) ha h.2.2.1
    · rw [show (0 : Int) + s + (a.length : Int) = s + a.length by omega]
      refine rf_yer_sh hb v (s + a.length) f (by omega) (by omega) ha ?_
      rw [show b + (s + (a.length : Int)) = b + s + a.length by omega]
      exact h.2.2.2.1
    · refine rf_yLR_sh hb hc ls _ _ e f g (by omega) (by omega) h1 (by omega) ha ht ?_
      rw [show c + (m + 1) = c + m + 1 by omega]
      exact h.2.2.2.2
theorem rf_yLC_pos {t : Int → Int} {n p S d : Int} {ls : List (Option (List (Int × Int)) × List (Int × Int))} (hu : rf_yU t n p ls) (h : rf_yLC S 0 ls d) : 1 ≤ d := by
  match ls, hu, h with
  | [], hu, _ => exact hu.elim
  | (none, v) :: ls, _, h =>
    have := rf_yLC_le ls _ d h.2.2
    omega
  | (some a, v) :: ls, _, h =>
    have := rf_yLC_le ls _ d h.2.2.2.2
    omega
theorem rf_yev_c {V : Int → Int} {s n : Int} {l : List (Int × Int)} {k : List Int} : rf_yev V ((s, n) :: l) k = if s = 0 then rf_yev V l (n :: k) else if s = 1 then rf_yev V l (V n :: k) else if s = 2 ∨ s = 3 then (match k with
    | v :: k => rf_yev V l (rf_yone s v :: k)
    | [] => none) else (match k with
    | v :: w :: k => rf_yev V l (rf_ytwo s w v :: k)
    | _ => none) := rfl
theorem rf_yev_app {V : Int → Int} : ∀ {l l' : List (Int × Int)} {k k1 : List Int}, rf_yev V l k = some k1 → rf_yev V (l ++ l') k = rf_yev V l' k1
  | [], l', k, k1, h => by
    cases h
    rfl
  | (s, n) :: l, l', k, k1, h => by
    rw [rf_yev_c] at h
    rw [List.cons_append, rf_yev_c]
    by_cases h0 : s = 0
    · rw [if_pos h0] at h ⊢
      exact rf_yev_app h
    · rw [if_neg h0] at h ⊢
      by_cases h1 : s = 1
      · rw [if_pos h1] at h ⊢
        exact rf_yev_app h
      · rw [if_neg h1] at h ⊢
        by_cases h2 : s = 2 ∨ s = 3
        · rw [if_pos h2] at h ⊢
          match k, h with
          | v :: k, h => exact rf_yev_app h
        · rw [if_neg h2] at h ⊢
          match k, h with
          | v :: w :: k, h => exact rf_yev_app h
theorem rf_ygs_app {l l' : List (Int × Int)} (a : rf_ygs l) (b : rf_ygs l') : rf_ygs (l ++ l') := fun q hq => by
  rcases List.mem_append.mp hq with h | h
  · exact a q h
  · exact b q h
theorem rf_ygs_one {s n : Int} (h : (s = 0 ∧ 0 ≤ n ∧ n ≤ 9999) ∨ (s = 1 ∧ 0 ≤ n ∧ n ≤ 5) ∨ (2 ≤ s ∧ s ≤ 3 ∧ n = 0) ∨ (6 ≤ s ∧ s ≤ 15 ∧ n = 0)) : rf_ygs [(s, n)] := fun q hq => by
  cases List.mem_singleton.mp hq
  exact h
/-- of a level's loop: steps that make of a number on the pile another one -/
def rf_yw2 (l : List (Int × Int)) : Prop := rf_ygs l ∧ ∀ V k v, ∃ w, rf_yev V l (v :: k) = some (w :: k) ∧ rf_yev V l [v] = some [w]
theorem rf_ysgn_rng (k : Nat) (c : Int) (h : rf_ysgn k c ≠ -1) : 6 ≤ rf_ysgn k c ∧ rf_ysgn k c ≤ 15 := by
  unfold rf_ysgn at h ⊢
  split at h <;> (repeat' split at h) <;> first | exact absurd rfl h | (simp_all <;> omega)
theorem rf_ynam_rng (c : Int) (h : rf_ynam c ≠ -1) : 0 ≤ rf_ynam c ∧ rf_ynam c ≤ 5 := by
  unfold rf_ynam at h ⊢
  (repeat' split at h) <;> first | exact absurd rfl h | (simp_all <;> omega)
theorem rf_yval_rng {t : Int → Int} {p : Int} : ∀ m : Nat, m ≤ 4 → (∀ j : Nat, j < m → rf_ydig (t (p + j))) → 0 ≤ rf_yval t p m ∧ rf_yval t p m ≤ 10 ^ m - 1
  | 0, _, _ => by simp [rf_yval]
  | m + 1, hm, h => by
    obtain ⟨a, b⟩ := rf_yval_rng m (by omega) (fun j hj => h j (by omega))
    obtain ⟨c, d⟩ := h m (by omega)
    have e : (10 : Int) ^ (m + 1) = 10 * 10 ^ m := by rw [Int.pow_succ]; omega
    simp only [rf_yval]
    constructor
    · omega
    · rw [e]
      omega
theorem rf_yev_bin {V : Int → Int} {s : Int} {l : List (Int × Int)} {v w : Int} {k : List Int} (h : 6 ≤ s) : rf_yev V ((s, 0) :: l) (v :: w :: k) = rf_yev V l (rf_ytwo s w v :: k) := by
  rw [rf_yev_c, if_neg (by omega), if_neg (by omega), if_neg (by omega)]
def rf_ywg (nt : Nat) (l : List (Int × Int)) : Prop := if 6 ≤ nt then rf_yw2 l else rf_yw1 l
theorem rf_ywg_sub {k : Nat} {l : List (Int × Int)} (hk : k ≤ 4) (h : rf_ywg (rf_ysub k) l) : rf_yw1 l := by
  unfold rf_ywg rf_ysub at h
  rwa [if_neg (by omega)] at h
theorem rf_yfg_w {t : Int → Int} {p q : Int} {l : List (Int × Int)} (h0 : 48 ≤ t p ∧ t p ≤ 57) (h : rf_yfg t p = some (q, some l)) : rf_yw1 l := by
  have one : ∀ v : Int, 0 ≤ v → v ≤ 9999 → rf_yw1 [(0, v)] := fun v v0 v1 => ⟨by simp, rf_ygs_one (by omega), fun V k => ⟨v, by rw [rf_yev_c, if_pos rfl]; rfl, by rw [rf_yev_c, if_pos rfl]; rfl⟩⟩
  unfold rf_yfg at h
  split at h
  next a =>
    cases h
    have := rf_yval_rng (t := t) (p := p) 1 (by omega) (fun j hj => by rw [show p + (j : Int) = p by omega]; exact ⟨h0.1, h0.2⟩)
    exact one _ this.1 (by omega)
  next a =>
    have a := Decidable.not_not.mp a
    split at h
    next b =>
      cases h
      have := rf_yval_rng (t := t) (p := p) 2 (by omega) (fun j hj => by
        have hc : j = 0 ∨ j = 1 := by omega
        rcases hc with rfl | rfl
        · rw [show p + ((0 : Nat) : Int) = p by omega]; exact ⟨h0.1, h0.2⟩
        · exact ⟨a.1, a.2⟩)
      exact one _ this.1 (by omega)
    next b =>
      have b := Decidable.not_not.mp b
      split at h
      next c =>
        cases h
        have := rf_yval_rng (t := t) (p := p) 3 (by omega) (fun j hj => by
          have hc : j = 0 ∨ j = 1 ∨ j = 2 := by omega
          rcases hc with rfl | rfl | rfl
          · rw [show p + ((0 : Nat) : Int) = p by omega]; exact ⟨h0.1, h0.2⟩
          · exact ⟨a.1, a.2⟩
          · exact ⟨b.1, b.2⟩)
        exact one _ this.1 (by omega)
      next c =>
        have c := Decidable.not_not.mp c
        split at h
        next d =>
          cases h
          have := rf_yval_rng (t := t) (p := p) 4 (by omega) (fun j hj => by
            have hc : j = 0 ∨ j = 1 ∨ j = 2 ∨ j = 3 := by omega
            rcases hc with rfl | rfl | rfl | rfl
            · rw [show p + ((0 : Nat) : Int) = p by omega]; exact ⟨h0.1, h0.2⟩
            · exact ⟨a.1, a.2⟩
            · exact ⟨b.1, b.2⟩
            · exact ⟨c.1, c.2⟩)
          exact one _ this.1 (by omega)
        next d => cases h
theorem rf_yP_w {t : Int → Int} : ∀ (f nt : Nat) (o p q : Int) (l : List (Int × Int)), nt ≤ 10 → rf_yP t f nt o p = some (q, some l) → rf_ywg nt l
  | 0, _, _, _, _, _, _, h => by cases h
  | f + 1, nt, o, p, q, l, hnt, h => by
    have ih := rf_yP_w (t := t) f
    unfold rf_yP at h
    by_cases c1 : nt < 5
    · rw [if_pos c1] at h
      obtain ⟨q1, l1, x1, h⟩ := rf_yb_some h
      obtain ⟨q2, l2, x2, h⟩ := rf_yb_some h
      cases h
      have a := ih _ _ _ _ _ (by omega) x1
      have b := ih _ _ _ _ _ (by omega) x2
      unfold rf_ywg at a b ⊢
      rw [if_neg (by omega)] at a ⊢
      rw [if_pos (by omega)] at b
      obtain ⟨a1, a2, a3⟩ := a
      obtain ⟨b1, b2⟩ := b
      refine ⟨fun hc => a1 (List.append_eq_nil_iff.mp hc).1, rf_ygs_app a2 b1, fun V k => ?_⟩
      obtain ⟨v, v1, v2⟩ := a3 V k
      obtain ⟨w, w1, w2⟩ := b2 V k v
      exact ⟨w, by rw [rf_yev_app v1]; exact w1, by rw [rf_yev_app v2]; exact w2⟩
    · rw [if_neg c1] at h
      by_cases c2 : nt = 5
      · rw [if_pos c2] at h
        unfold rf_ywg
        rw [if_neg (by omega)]
        by_cases c3 : rf_ynam (t p) ≠ -1
        · rw [if_pos c3] at h
          cases h
          have := rf_ynam_rng _ c3
          refine ⟨by simp, rf_ygs_one (by omega), fun V k => ⟨V (rf_ynam (t p)), ?_, ?_⟩⟩ <;> (rw [rf_yev_c, if_neg (by omega), if_pos rfl]; rfl)
        · rw [if_neg c3] at h
          by_cases c4 : 48 ≤ t p ∧ t p ≤ 57
          · rw [if_pos c4] at h
            exact rf_yfg_w c4 h
          · rw [if_neg c4] at h
            by_cases c5 : t p = 40
            · rw [if_pos c5] at h
              by_cases c6 : 6 ≤ o
              · rw [if_pos c6] at h
                cases h
              · rw [if_neg c6] at h
                obtain ⟨q1, l1, x1, h⟩ := rf_yb_some h
                have a := ih _ _ _ _ _ (by omega) x1
                unfold rf_ywg at a
                rw [if_neg (by omega)] at a
                by_cases c7 : t q1 = 41
                · rw [if_pos c7] at h
                  cases h
                  exact a
                · rw [if_neg c7] at h
                  cases h
            · rw [if_neg c5] at h
              by_cases c6 : t p = 33 ∨ t p = 45
              · rw [if_pos c6] at h
                by_cases c7 : 6 ≤ o
                · rw [if_pos c7] at h
                  cases h
                · rw [if_neg c7] at h
                  obtain ⟨q1, l1, x1, h⟩ := rf_yb_some h
                  cases h
                  have a := ih _ _ _ _ _ (by omega) x1
                  unfold rf_ywg at a
                  rw [if_neg (by omega)] at a
                  obtain ⟨a1, a2, a3⟩ := a
                  have hs : (if t p = 33 then (2 : Int) else 3) = 2 ∨ (if t p = 33 then (2 : Int) else 3) = 3 := by
                    split
                    · exact .inl rfl
                    · exact .inr rfl
                  generalize (if t p = 33 then (2 : Int) else 3) = s at hs
                  refine ⟨fun hc => a1 (List.append_eq_nil_iff.mp hc).1, rf_ygs_app a2 (rf_ygs_one (by omega)), fun V k => ?_⟩
                  obtain ⟨v, v1, v2⟩ := a3 V k
                  refine ⟨rf_yone s v, ?_, ?_⟩
                  · rw [rf_yev_app v1, rf_yev_c, if_neg (by omega), if_neg (by omega), if_pos hs]
                    rfl
                  · rw [rf_yev_app v2, rf_yev_c, if_neg (by omega), if_neg (by omega), if_pos hs]
                    rfl
              · rw [if_neg c6] at h
                cases h
      · rw [if_neg c2] at h
        unfold rf_ywg
        rw [if_pos (by omega)]
        by_cases c3 : rf_ysgn (nt - 6) (t p) = -1
        · rw [if_pos c3] at h
          cases h
          exact ⟨fun q hq => absurd hq List.not_mem_nil, fun V k v => ⟨v, rfl, rfl⟩⟩
        · rw [if_neg c3] at h
          have hr := rf_ysgn_rng _ _ c3
          obtain ⟨q1, l1, x1, h⟩ := rf_yb_some h
          have a := ih _ _ _ _ _ (by omega) x1
          unfold rf_ywg at a
          rw [if_neg (by omega)] at a
          obtain ⟨a1, a2, a3⟩ := a
          have bin : ∀ (V : Int → Int) (st : List Int) (v : Int), ∃ y, rf_yev V l1 (v :: st) = some (y :: v :: st) ∧ rf_yev V l1 [v] = some [y, v] := by
            intro V st v
            obtain ⟨x, x1, x2⟩ := a3 V (v :: st)
            obtain ⟨y, y1, y2⟩ := a3 V [v]
            have e : y = x := by
              rw [x2] at y2
              cases y2
              rfl
            subst e
            exact ⟨y, x1, y1⟩
          by_cases c4 : nt = 8
          · rw [if_pos c4] at h
            cases h
            refine ⟨rf_ygs_app a2 (rf_ygs_one (by omega)), fun V st v => ?_⟩
            obtain ⟨y, y1, y2⟩ := bin V st v
            refine ⟨rf_ytwo (rf_ysgn (nt - 6) (t p)) v y, ?_, ?_⟩
            · rw [rf_yev_app y1, rf_yev_bin hr.1]
              rfl
            · rw [rf_yev_app y2, rf_yev_bin hr.1]
              rfl
          · rw [if_neg c4] at h
            obtain ⟨q2, l2, x2, h⟩ := rf_yb_some h
            cases h
            have b := ih _ _ _ _ _ hnt x2
            unfold rf_ywg at b
            rw [if_pos (by omega)] at b
            obtain ⟨b1, b2⟩ := b
            refine ⟨rf_ygs_app a2 (rf_ygs_app (l := [(rf_ysgn (nt - 6) (t p), 0)]) (rf_ygs_one (by omega)) b1), fun V st v => ?_⟩
            obtain ⟨y, y1, y2⟩ := bin V st v
            obtain ⟨w, w1, w2⟩ := b2 V st (rf_ytwo (rf_ysgn (nt - 6) (t p)) v y)
            refine ⟨w, ?_, ?_⟩
            · rw [rf_yev_app y1, rf_yev_bin hr.1]
              exact w1
            · rw [rf_yev_app y2, rf_yev_bin hr.1]
              exact w2
theorem rf_yG_w {t : Int → Int} {nt : Nat} {o p q : Int} {l : List (Int × Int)} (h : rf_yG t nt o p q (some l)) (hn : nt ≤ 10) : rf_ywg nt l := by
  obtain ⟨f, h⟩ := h
  exact rf_yP_w f nt o p q l hn h
theorem rf_yG_w0 {t : Int → Int} {o p q : Int} {l : List (Int × Int)} (h : rf_yG t (rf_nlv 0) o p q (some l)) : rf_yw1 l := by
  have := rf_yG_w h (by decide)
  unfold rf_ywg at this
  rwa [if_neg (by decide)] at this
theorem rf_yLL_w {t : Int → Int} {p q : Int} {a : Option (List (Int × Int))} {v : List (Int × Int)} (h : rf_yLL t p q a v) : rf_yw1 v ∧ ∀ x, a = some x → rf_yw1 x := by
  rcases h with ⟨rfl, h1, -⟩ | ⟨l, q1, rfl, h1, -, h3⟩
  · exact ⟨rf_yG_w0 h1, fun x e => by cases e⟩
  · exact ⟨rf_yG_w0 h3, fun x e => by cases e; exact rf_yG_w0 h1⟩
theorem rf_yU_w {t : Int → Int} {n : Int} : ∀ {p : Int} {ls : List (Option (List (Int × Int)) × List (Int × Int))}, rf_yU t n p ls → rf_ywn ls
  | _, [], h => h.elim
  | _, [x], ⟨_, h1, _⟩ => fun q hq => by
    cases List.mem_singleton.mp hq
    exact rf_yLL_w h1
  | _, x :: y :: ls, ⟨_, h1, _, _, h4⟩ => fun q hq => by
    rcases List.mem_cons.mp hq with rfl | hq
    · exact rf_yLL_w h1
    · exact rf_yU_w h4 q hq
theorem rf_yac_s {s : Int} (h : 0 ≤ s ∧ s ≤ 3 ∨ 6 ≤ s ∧ s ≤ 15) : (s ≤ 3 → rf_yac s = s + 1) ∧ (6 ≤ s → rf_yac s ≠ 1 ∧ rf_yac s ≠ 2 ∧ rf_yac s ≠ 3 ∧ rf_yac s ≠ 4 ∧ rf_yso (rf_yac s) = s) := by
  have hc : s = 0 ∨ s = 1 ∨ s = 2 ∨ s = 3 ∨ s = 6 ∨ s = 7 ∨ s = 8 ∨ s = 9 ∨ s = 10 ∨ s = 11 ∨ s = 12 ∨ s = 13 ∨ s = 14 ∨ s = 15 := by omega
  rcases hc with rfl | rfl | rfl | rfl | rfl | rfl | rfl | rfl | rfl | rfl | rfl | rfl | rfl | rfl <;> decide
theorem rf_yrl_c {A W : Int} {V : Int → Int} {f : Nat} {a : Int} {k : List Int} : rf_yrl A W V (f + 1) a k = if rf_dc a.toNat A = 1 then rf_yrl A W V f (a + 1) (rf_dc a.toNat W :: k) else if rf_dc a.toNat A = 2 then rf_yrl A W V f (a + 1) (V (rf_dc a.toNat W) :: k) else if rf_dc a.toNat A = 3 ∨ rf_dc a.toNat A = 4 then (match k with
      | v :: k => rf_yrl A W V f (a + 1) (rf_yone (rf_dc a.toNat A - 1) v :: k)
      | [] => none) else (match k with
      | v :: w :: k => rf_yrl A W V f (a + 1) (rf_ytwo (rf_yso (rf_dc a.toNat A)) w v :: k)
      | _ => none) := rfl
theorem rf_yrl_ev {A W : Int} {V : Int → Int} : ∀ (l : List (Int × Int)) (d : Int) (k : List Int), rf_yer A W d l → rf_ygs l → rf_yrl A W V l.length d k = rf_yev V l k
  | [], _, _, _, _ => rfl
  | (s, n) :: l, d, k, h, g => by
    obtain ⟨h1, h2, h3⟩ := h
    have gs : rf_ygs l := fun q hq => g q (List.mem_cons_of_mem _ hq)
    have g0 := g (s, n) List.mem_cons_self
    simp only at g0
    have ya := rf_yac_s (s := s) (by omega)
    rw [List.length_cons, rf_yrl_c, rf_yev_c, h1, h2]
    by_cases h0 : s = 0
    · subst h0
      rw [if_pos (by decide), if_pos rfl]
      exact rf_yrl_ev l (d + 1) _ h3 gs
    · by_cases h1' : s = 1
      · subst h1'
        rw [if_neg (by decide), if_pos (by decide), if_neg (by decide), if_pos rfl]
        exact rf_yrl_ev l (d + 1) _ h3 gs
      · by_cases h2' : s = 2 ∨ s = 3
        · have e := ya.1 (by omega)
          rw [e, if_neg (by omega), if_neg (by omega), if_pos (by omega), if_neg h0, if_neg h1', if_pos h2']
          match k with
          | [] => rfl
          | v :: k =>
            show rf_yrl A W V l.length (d + 1) (rf_yone (s + 1 - 1) v :: k) = rf_yev V l (rf_yone s v :: k)
            rw [show s + 1 - 1 = s by omega]
            exact rf_yrl_ev l (d + 1) _ h3 gs
        · have e := ya.2 (by omega)
          rw [if_neg e.1, if_neg e.2.1, if_neg (by omega), if_neg h0, if_neg h1', if_neg h2']
          match k with
          | [] => rfl
          | [v] => rfl
          | v :: w :: k =>
            show rf_yrl A W V l.length (d + 1) (rf_ytwo (rf_yso (rf_yac s)) w v :: k) = rf_yev V l (rf_ytwo s w v :: k)
            rw [e.2.2.2.2]
            exact rf_yrl_ev l (d + 1) _ h3 gs
theorem rf_yw1_val {l : List (Int × Int)} (h : rf_yw1 l) (V : Int → Int) : rf_yev V l [] = some [rf_yval1 V l] := by
  obtain ⟨v, -, v2⟩ := h.2.2 V []
  unfold rf_yval1
  rw [v2]
theorem rf_yrl_val {A W d : Int} {l : List (Int × Int)} (h : rf_yer A W d l) (w : rf_yw1 l) (V : Int → Int) : rf_yrl A W V l.length d [] = some [rf_yval1 V l] := by
  rw [rf_yrl_ev l d [] h w.2.1]
  exact rf_yw1_val w V
theorem rf_ysn {s n : Int} (hs : 0 ≤ s) (h1 : 0 ≤ n) (h2 : n < 16384) : (s * 16384 + n).tdiv 16384 = s ∧ (s * 16384 + n).tmod 16384 = n := by
  rw [Int.tdiv_eq_ediv_of_nonneg (by omega), Int.tmod_eq_emod_of_nonneg (by omega)]
  omega
theorem rf_ywl_c {S e : Int} {V : Int → Int} {f : Nat} {a : Int} {k : List Int} {s n : Int} (hs : 0 ≤ s) (h1 : 0 ≤ n) (h2 : n < 16384) (hx : rf_dc a.toNat S = s * 16384 + n) (ha : a < e) (hk : k.length < 121) : rf_ywl S e V (f + 1) a k = if s ≤ 1 then rf_ywl S e V f (a + 1) ((if s = 0 then n else V n) :: k)
    else match (generalizing := false) k with
      | [] => 0
      | [v] => if s = 5 then v else if s = 4 then rf_ywl S e V f (if v = 0 then n else a + 1) [] else rf_ywl S e V f (a + 1) [rf_yone s v]
      | v :: w :: k => if 6 ≤ s then rf_ywl S e V f (a + 1) (rf_ytwo s w v :: k) else if s = 5 then v else if s = 4 then rf_ywl S e V f (if v = 0 then n else a + 1) (w :: k) else rf_ywl S e V f (a + 1) (rf_yone s v :: w :: k) := by
  obtain ⟨e1, e2⟩ := rf_ysn hs h1 h2
  conv => lhs; unfold rf_ywl
  rw [if_neg (by omega)]
  simp only [hx, e1, e2] <;> rfl
theorem rf_ywl_ev {S e : Int} {V : Int → Int} (he : e ≤ 121) : ∀ (l : List (Int × Int)) (d : Int) (k k1 : List Int) (f : Nat), rf_yec S d l → rf_ygs l → 0 ≤ d → d + l.length < e → (k.length : Int) ≤ d → rf_yev V l k = some k1 → rf_ywl S e V (f + l.length) d k = rf_ywl S e V f (d + l.length) k1 ∧ (k1.length : Int) ≤ d + l.length
  | [], d, k, k1, f, _, _, _, _, hk, h => by
    cases h
    simp only [List.length_nil]
    exact ⟨by simp, by omega⟩
  | (s, n) :: l, d, k, k1, f, hc, g, hd, hl, hk, h => by
    obtain ⟨hx, hc⟩ := hc
    simp only [List.length_cons] at hl ⊢
    have gs : rf_ygs l := fun q hq => g q (List.mem_cons_of_mem _ hq)
    have g0 := g (s, n) List.mem_cons_self
    simp only at g0
    rw [rf_yev_c] at h
    have st : ∀ k2 : List Int, (k2.length : Int) ≤ d + 1 → rf_yev V l k2 = some k1 → rf_ywl S e V (f + l.length) (d + 1) k2 = rf_ywl S e V f (d + ((l.length + 1 : Nat) : Int)) k1 ∧ (k1.length : Int) ≤ d + ((l.length + 1 : Nat) : Int) := by
      intro k2 hk2 h2
      have := rf_ywl_ev he l (d + 1) k2 k1 f hc gs (by omega) (by omega) hk2 h2
      rw [show d + 1 + (l.length : Int) = d + ((l.length + 1 : Nat) : Int) by omega] at this
      exact this
    rw [show f + (l.length + 1) = (f + l.length) + 1 by omega, rf_ywl_c (s := s) (n := n) (by omega) (by omega) (by omega) hx (by omega) (by omega)]
    by_cases h0 : s = 0
    · rw [if_pos h0] at h
      rw [if_pos (by omega), if_pos h0]
      exact st _ (by simp only [List.length_cons]; omega) h
    · rw [if_neg h0] at h
      by_cases h1 : s = 1
      · rw [if_pos h1] at h
        rw [if_pos (by omega), if_neg h0]
        exact st _ (by simp only [List.length_cons]; omega) h
      · rw [if_neg h1] at h
        rw [if_neg (by omega)]
        by_cases h2 : s = 2 ∨ s = 3
        · rw [if_pos h2] at h
          match k, hk, h with
          | [v], hk, h =>
            show (if s = 5 then v else if s = 4 then _ else _) = _ ∧ _
            rw [if_neg (by omega), if_neg (by omega)]
            exact st _ (by simp only [List.length_cons] at hk ⊢; omega) h
          | v :: w :: k, hk, h =>
            show (if 6 ≤ s then _ else if s = 5 then v else if s = 4 then _ else _) = _ ∧ _
            rw [if_neg (by omega), if_neg (by omega), if_neg (by omega)]
            exact st _ (by simp only [List.length_cons] at hk ⊢; omega) h
        · rw [if_neg h2] at h
          match k, hk, h with
          | v :: w :: k, hk, h =>
            show (if 6 ≤ s then _ else if s = 5 then v else if s = 4 then _ else _) = _ ∧ _
            rw [if_pos (by omega)]
            exact st _ (by simp only [List.length_cons] at hk ⊢; omega) h
theorem rf_ywl_val {S e : Int} {V : Int → Int} (he : e ≤ 121) {l : List (Int × Int)} {d : Int} {f : Nat} (hc : rf_yec S d l) (w : rf_yw1 l) (hd : 0 ≤ d) (hl : d + l.length < e) : rf_ywl S e V (f + l.length) d [] = rf_ywl S e V f (d + l.length) [rf_yval1 V l] :=
  (rf_ywl_ev he l d [] _ f hc w.2.1 hd hl (by simpa using hd) (rf_yw1_val w V)).1
theorem rf_ywl_lines {S e : Int} {V : Int → Int} (he : e ≤ 121) : ∀ (ls : List (Option (List (Int × Int)) × List (Int × Int))) (d : Int) (f : Nat), rf_yLC S d ls e → rf_ywn ls → 0 ≤ d → e - d ≤ f → rf_ywl S e V f d [] = rf_ylv V ls
  | [], d, f, h, _, _, _ => by
    have hd : e = d := h
    match f with
    | 0 => rfl
    | f + 1 =>
      unfold rf_ywl
      rw [if_pos (by omega)]
      rfl
  | (none, v) :: ls, d, f, h, w, hd, hf => by
    obtain ⟨h1, h2, h3⟩ := h
    have hl := rf_yLC_le ls _ e h3
    have wv := (w _ List.mem_cons_self).1
    obtain ⟨f', rfl⟩ : ∃ f', f = (f' + 1) + v.length := ⟨f - v.length - 1, by omega⟩
    rw [rf_ywl_val he h1 wv hd (by omega), rf_ywl_c (s := 5) (n := 0) (by omega) (by omega) (by omega) (by rw [h2]; rfl) (by omega) (by simp)]
    rfl
  | (some a, v) :: ls, d, f, h, w, hd, hf => by
    obtain ⟨h1, h2, h3, h4, h5⟩ := h
    have hl := rf_yLC_le ls _ e h5
    have wv := (w _ List.mem_cons_self).1
    have wa := (w _ List.mem_cons_self).2 a rfl
    obtain ⟨f', rfl⟩ : ∃ f', f = (f' + 1) + a.length := ⟨f - a.length - 1, by omega⟩
    rw [rf_ywl_val he h1 wa hd (by omega), rf_ywl_c (s := 4) (n := d + a.length + v.length + 2) (by omega) (by omega) (by omega) h2 (by omega) (by simp)]
    show rf_ywl S e V f' (if rf_yval1 V a = 0 then d + a.length + v.length + 2 else d + a.length + 1) [] = if rf_yval1 V a ≠ 0 then rf_yval1 V v else rf_ylv V ls
    by_cases hz : rf_yval1 V a = 0
    · rw [if_pos hz, if_neg (by simpa using hz)]
      exact rf_ywl_lines he ls _ f' h5 (fun q hq => w q (List.mem_cons_of_mem _ hq)) (by omega) (by omega)
    · rw [if_neg hz, if_pos hz]
      obtain ⟨f2, rfl⟩ : ∃ f2, f' = (f2 + 1) + v.length := ⟨f' - v.length - 1, by omega⟩
      rw [rf_ywl_val he h3 wv (by omega) (by omega), rf_ywl_c (s := 5) (n := 0) (by omega) (by omega) (by omega) (by rw [h4]; rfl) (by omega) (by simp)]
      rfl
theorem rf_ypl_len (P : Int) : ∀ h : Nat, (rf_ypl P h).length = h
  | 0 => rfl
  | h + 1 => by
    show (rf_ypl P h).length + 1 = h + 1
    rw [rf_ypl_len P h]
theorem rf_ypl_up {P v : Int} {j : Nat} : ∀ h : Nat, h ≤ j → rf_ypl (rf_up j v P) h = rf_ypl P h
  | 0, _ => rfl
  | h + 1, hj => by
    show rf_dc h (rf_up j v P) :: rf_ypl (rf_up j v P) h = rf_dc h P :: rf_ypl P h
    rw [rf_dc_up_ne (by omega), rf_ypl_up h (by omega)]
theorem rf_ypl_push {P v h : Int} (h0 : 0 ≤ h) (r1 : -9223372036854775808 ≤ v) (r2 : v ≤ 9223372036854775807) : rf_ypl (rf_up h.toNat v P) (h + 1).toNat = v :: rf_ypl P h.toNat := by
  rw [show (h + 1).toNat = h.toNat + 1 by omega]
  show rf_dc h.toNat (rf_up h.toNat v P) :: rf_ypl (rf_up h.toNat v P) h.toNat = _
  rw [rf_dc_up r1 r2, if_pos rfl, rf_ypl_up h.toNat (Nat.le_refl _)]
theorem rf_ypl_top {P h : Int} (h1 : 1 ≤ h) : rf_ypl P h.toNat = rf_dc (h - 1).toNat P :: rf_ypl P (h - 1).toNat := by
  rw [show h.toNat = (h - 1).toNat + 1 by omega]
  rfl
theorem rf_ypl_top2 {P h : Int} (h1 : 2 ≤ h) : rf_ypl P h.toNat = rf_dc (h - 1).toNat P :: rf_dc (h - 2).toNat P :: rf_ypl P (h - 2).toNat := by
  rw [rf_ypl_top (by omega), rf_ypl_top (h := h - 1) (by omega), show h - 1 - 1 = h - 2 by omega]
theorem rf_ywl_s {S e : Int} {V : Int → Int} {f : Nat} {a : Int} {k : List Int} {x s n : Int} (hx : x = rf_dc a.toNat S) (hs : s = x.tdiv 16384) (hn : n = x.tmod 16384) (ha : a < e) (hk : k.length < 121) : rf_ywl S e V (f + 1) a k = if s ≤ 1 then rf_ywl S e V f (a + 1) ((if s = 0 then n else V n) :: k)
    else match (generalizing := false) k with
      | [] => 0
      | [v] => if s = 5 then v else if s = 4 then rf_ywl S e V f (if v = 0 then n else a + 1) [] else rf_ywl S e V f (a + 1) [rf_yone s v]
      | v :: w :: k => if 6 ≤ s then rf_ywl S e V f (a + 1) (rf_ytwo s w v :: k) else if s = 5 then v else if s = 4 then rf_ywl S e V f (if v = 0 then n else a + 1) (w :: k) else rf_ywl S e V f (a + 1) (rf_yone s v :: w :: k) := by
  conv => lhs; unfold rf_ywl
  rw [if_neg (by omega)]
  simp only [← hx, ← hs, ← hn] <;> rfl
/-- a turn of the class's machine that leaves one number in the place of the top -/
theorem rf_ywl_1 {S e : Int} {V : Int → Int} {f : Nat} {a : Int} {v : Int} {k : List Int} {x s n : Int} (hx : x = rf_dc a.toNat S) (hs : s = x.tdiv 16384) (hn : n = x.tmod 16384) (ha : a < e) (hk : k.length + 1 < 121) (s2 : 2 ≤ s) (hc : s ≤ 5 ∨ k = []) :
    rf_ywl S e V (f + 1) a (v :: k) = if s = 5 then v else if s = 4 then rf_ywl S e V f (if v = 0 then n else a + 1) k else rf_ywl S e V f (a + 1) (rf_yone s v :: k) := by
  rw [rf_ywl_s hx hs hn ha (by simpa using hk), if_neg (by omega)]
  match k, hc with
  | [], _ => rfl
  | w :: k, hc =>
    have h5 : s ≤ 5 := by
      rcases hc with h | h
      · exact h
      · cases h
    show (if 6 ≤ s then _ else if s = 5 then v else _) = _
    rw [if_neg (by omega)]
theorem rf_ywl_0 {S e : Int} {V : Int → Int} {f : Nat} {a : Int} {k : List Int} (h : f = 0 ∨ e ≤ a ∨ 121 ≤ k.length) : rf_ywl S e V f a k = 0 := by
  match f with
  | 0 => rfl
  | f + 1 =>
    unfold rf_ywl
    rw [if_pos (by omega)]
theorem rf_yvv_6 {N N0 f o t b s k : Int} (h : N = rf_up 5 k (rf_up 4 s (rf_up 3 b (rf_up 2 t (rf_up 1 o (rf_up 0 f N0)))))) (hf : -9223372036854775808 ≤ f ∧ f ≤ 9223372036854775807) (ho : -9223372036854775808 ≤ o ∧ o ≤ 9223372036854775807) (ht : -9223372036854775808 ≤ t ∧ t ≤ 9223372036854775807) (hb : -9223372036854775808 ≤ b ∧ b ≤ 9223372036854775807) (hs : -9223372036854775808 ≤ s ∧ s ≤ 9223372036854775807) (hk : -9223372036854775808 ≤ k ∧ k ≤ 9223372036854775807) : rf_yvv N = rf_yv6 f o t b s k := by
  funext j
  unfold rf_yvv rf_yv6
  by_cases hj : 0 ≤ j ∧ j ≤ 5
  · rw [if_pos hj, h, rf_dc_up hk.1 hk.2, rf_dc_up hs.1 hs.2, rf_dc_up hb.1 hb.2, rf_dc_up ht.1 ht.2, rf_dc_up ho.1 ho.2, rf_dc_up hf.1 hf.2]
    have hc : j = 0 ∨ j = 1 ∨ j = 2 ∨ j = 3 ∨ j = 4 ∨ j = 5 := by omega
    rcases hc with rfl | rfl | rfl | rfl | rfl | rfl <;> rfl
  · rw [if_neg hj, if_neg (by omega), if_neg (by omega), if_neg (by omega), if_neg (by omega), if_neg (by omega), if_neg (by omega)]
theorem rf_ywf_at {A W T U m : Int} {V : Int → Int} {l a l0 : Int} {rest : List (Option (List (Int × Int)) × List (Int × Int))} (h : (rest.length : Int) = m - l) (hl : l < m) (w : rf_ywn rest) (r : rf_yLR A W T U 0 l a rest l0) :
    (∃ v rest', rest = (none, v) :: rest' ∧ rf_dc l.toNat T = a ∧ rf_dc l.toNat U = a + v.length ∧ rf_yrl A W V v.length a [] = some [rf_yval1 V v]) ∨
    ∃ t v rest', rest = (some t, v) :: rest' ∧ 1 ≤ t.length ∧ rf_dc l.toNat T = a + t.length ∧ rf_dc l.toNat U = a + t.length + v.length ∧ rf_yrl A W V t.length a [] = some [rf_yval1 V t] ∧ rf_yrl A W V v.length (a + t.length) [] = some [rf_yval1 V v] ∧ rf_ywn rest' ∧ rf_yLR A W T U 0 (l + 1) (a + t.length + v.length) rest' l0 := by
  match rest, h, w, r with
  | [], h, _, _ =>
    simp only [List.length_nil] at h
    omega
  | (none, v) :: rest', h, w, r =>
    refine Or.inl ⟨v, rest', rfl, r.1, r.2.1, rf_yrl_val ?_ (w _ List.mem_cons_self).1 V⟩
    have := r.2.2.1
    rwa [show (0 : Int) + a = a by omega] at this
  | (some t, v) :: rest', h, w, r =>
    have wt := (w _ List.mem_cons_self).2 t rfl
    refine Or.inr ⟨t, v, rest', rfl, ?_, r.1, r.2.1, rf_yrl_val ?_ wt V, rf_yrl_val ?_ (w _ List.mem_cons_self).1 V, fun q hq => w q (List.mem_cons_of_mem _ hq), r.2.2.2.2⟩
    · have := wt.1
      match t, this with
      | [], h => exact absurd rfl h
      | x :: t, _ => simp
    · have := r.2.2.1
      rwa [show (0 : Int) + a = a by omega] at this
    · have := r.2.2.2.1
      rwa [show (0 : Int) + a + (t.length : Int) = a + t.length by omega] at this
theorem rf_ybm32 {r : Int} (h1 : -2147483648 ≤ r) (h2 : r ≤ 2147483647) : r.bmod (2 ^ 32) = r := by
  rw [Int.bmod_eq_iff (by decide)]
  refine ⟨by omega, by omega, ⟨0, by omega⟩⟩
theorem rf_yof32 {a : Int} (h1 : -2147483648 ≤ a) (h2 : a ≤ 2147483647) : (Int32.ofInt a).toInt = a := Int32.toInt_ofInt_of_le (by simpa using h1) (by simpa using (by omega : a < 2147483648))
theorem rf_ydiv32 {a b : Int} (a1 : -2147483648 ≤ a) (a2 : a ≤ 2147483647) (b1 : -2147483648 ≤ b) (b2 : b ≤ 2147483647) : (Int32.ofInt a / Int32.ofInt b).toInt = (a.tdiv b).bmod (2 ^ 32) := by
  rw [Int32.toInt_div, rf_yof32 a1 a2, rf_yof32 b1 b2]
theorem rf_yrem32 {a b : Int} (a1 : -2147483648 ≤ a) (a2 : a ≤ 2147483647) (b1 : -2147483648 ≤ b) (b2 : b ≤ 2147483647) (b0 : b ≠ 0) : (Int32.ofInt a - Int32.ofInt a / Int32.ofInt b * Int32.ofInt b).toInt = a.tmod b := by
  have hd := rf_ydiv32 a1 a2 b1 b2
  rw [Int32.toInt_sub, Int32.toInt_mul, hd, rf_yof32 a1 a2, rf_yof32 b1 b2, Int.sub_bmod_bmod, ← Int.sub_bmod_bmod, Int.bmod_mul_bmod, Int.sub_bmod_bmod]
  have e : a - a.tdiv b * b = a.tmod b := by rw [Int.tmod_def, Int.mul_comm]
  rw [e]
  have hn := Int.natAbs_tmod a b
  have hl : a.natAbs % b.natAbs < b.natAbs := Nat.mod_lt _ (by omega)
  exact rf_ybm32 (by omega) (by omega)
theorem rf_ysC_lv {L B F A t : Int} (h0 : 0 ≤ t) (h1 : t < 4) : rf_ysC L B F A t = rf_dc t.toNat L := by
  unfold rf_ysC
  rw [if_neg (by omega), if_pos (by omega)]
theorem rf_ysC_bk {L B F A t : Int} (h0 : 0 ≤ t) (h1 : t < 4) : rf_ysC L B F A (4 + t) = rf_dc t.toNat B := by
  unfold rf_ysC
  rw [if_neg (by omega), if_neg (by omega), if_pos (by omega), show (4 + t - 4) = t by omega]
theorem rf_ysC_ah {L B F A t : Int} (h0 : 0 ≤ t) (h1 : t < 4) : rf_ysC L B F A (8 + t) = if rf_dc t.toNat A = -1 then 0 else rf_dc t.toNat A := by
  unfold rf_ysC
  rw [if_neg (by omega), if_neg (by omega), if_neg (by omega), if_pos (by omega), show (8 + t - 8) = t by omega]
theorem rf_ysC_sm {L B F A : Int} : rf_ysC L B F A 12 = if rf_dc 0 A = -1 then 0 else 1 := by
  unfold rf_ysC
  rw [if_neg (by omega), if_neg (by omega), if_neg (by omega), if_neg (by omega), if_pos rfl]
theorem rf_ysC_bn {L B F A g : Int} (h0 : 0 ≤ g) (h1 : g < 7) : rf_ysC L B F A (13 + g) = if rf_dc (4 * g).toNat F = -1 then 0 else 1 := by
  unfold rf_ysC
  rw [if_neg (by omega), if_neg (by omega), if_neg (by omega), if_neg (by omega), if_neg (by omega), if_pos (by omega), show (4 * (13 + g - 13)) = 4 * g by omega]
theorem rf_ysC_fd {L B F A j : Int} (h0 : 0 ≤ j) (h1 : j < 28) : rf_ysC L B F A (20 + j) = if rf_dc j.toNat F = -1 then 0 else rf_dc j.toNat F := by
  unfold rf_ysC
  rw [if_neg (by omega), if_neg (by omega), if_neg (by omega), if_neg (by omega), if_neg (by omega), if_neg (by omega), show (20 + j - 20) = j by omega]
/-- what is believed, by the class's own numbers -/
theorem rf_yo_C {E : rf_yV} {L B F A g t : Int} (hv : rf_yvA F A) (g0 : 0 ≤ g) (g1 : g < 7) (t0 : 0 ≤ t) (t1 : t < 4) :
    rf_yo E g (rf_ysC L B F A) t = if (rf_yv_be E) g = 0 then (if rf_dc (4 * g + t).toNat F = -1 then rf_dc t.toNat L else rf_dc (4 * g + t).toNat F) else if (rf_yv_be E) g = 1 then rf_dc t.toNat B else if (rf_yv_be E) g = 3 then (if rf_dc t.toNat A = -1 then (rf_yv_ou E) t else rf_dc t.toNat A) else (rf_yv_ou E) t := by
  have hA := hv.1 t.toNat (by omega)
  have hF := hv.2 g.toNat t.toNat (by omega) (by omega)
  rw [show 4 * g.toNat + t.toNat = (4 * g + t).toNat by omega, show 4 * g.toNat = (4 * g).toNat by omega] at hF
  unfold rf_yo rf_ybel
  rw [rf_ysC_lv t0 t1, rf_ysC_bk t0 t1, rf_ysC_ah t0 t1, rf_ysC_sm, rf_ysC_bn g0 g1, show 20 + 4 * g + t = 20 + (4 * g + t) by omega, rf_ysC_fd (by omega) (by omega)]
  by_cases b0 : (rf_yv_be E) g = 0
  · rw [if_pos b0, if_pos b0]
    by_cases f0 : rf_dc (4 * g + t).toNat F = -1
    · rw [if_pos (hF.mp f0), if_pos rfl, if_pos f0]
    · rw [if_neg (fun h => f0 (hF.mpr h)), if_neg (by decide), if_neg f0, if_neg f0]
  · rw [if_neg b0, if_neg b0]
    by_cases b1 : (rf_yv_be E) g = 1
    · rw [if_pos b1, if_pos b1]
    · rw [if_neg b1, if_neg b1]
      by_cases b3 : (rf_yv_be E) g = 3
      · rw [if_pos b3, if_pos b3]
        by_cases a0 : rf_dc t.toNat A = -1
        · rw [if_pos (hA.mp a0), if_pos rfl, if_pos a0]
        · rw [if_neg (fun h => a0 (hA.mpr h)), if_neg (by decide), if_neg a0, if_neg a0]
      · rw [if_neg b3, if_neg b3]
/-- all four things done: the night is gone -/
theorem rf_ypC_4 {E : rf_yV} {L0 B0 F0 A0 L B F A g : Int} (hv : rf_yvA F0 A0) (g0 : 0 ≤ g) (g1 : g < 7) (h : rf_ypC E g L0 B0 F0 A0 4 L B F A) (ho : ∀ t : Nat, t < 4 → rf_yo E g (rf_ysC L0 B0 F0 A0) t ≠ -1) (hl : ∀ t : Nat, t < 4 → rf_dc t L0 ≠ -1) :
    rf_ysC L B F A = rf_yngt E g (rf_ysC L0 B0 F0 A0) ∧ rf_yvA F A := by
  obtain ⟨h1, h2⟩ := h
  have hF : ∀ t : Nat, t < 4 → rf_dc (4 * g + t).toNat F ≠ -1 := by
    intro t ht
    rw [((h1 t ht).1 (by omega)).2.2.2]
    split
    · exact hl t ht
    · assumption
  have hA : ∀ t : Nat, t < 4 → rf_dc t A ≠ -1 := fun t ht => by
    rw [((h1 t ht).1 (by omega)).2.1]
    exact ho t ht
  refine ⟨?_, ⟨fun t ht => ?_, fun k t hk ht => ?_⟩⟩
  · funext j
    unfold rf_yngt
    by_cases c0 : j < 0 ∨ 48 ≤ j
    · rw [if_pos c0]
      unfold rf_ysC
      rw [if_pos c0]
    · rw [if_neg c0]
      by_cases c1 : j < 4
      · rw [if_pos c1, rf_ysC_lv (by omega) c1, rf_ysC_lv (by omega) c1]
        have := ((h1 j.toNat (by omega)).1 (by omega)).1
        rw [show ((j.toNat : Nat) : Int) = j by omega] at this
        exact this
      · rw [if_neg c1]
        by_cases c2 : j < 8
        · rw [if_pos c2]
          obtain ⟨t, rfl⟩ : ∃ t, j = 4 + t := ⟨j - 4, by omega⟩
          rw [show 4 + t - 4 = t by omega, rf_ysC_bk (by omega) (by omega), rf_ysC_bk (by omega) (by omega), rf_ysC_lv (by omega) (by omega)]
          have := (h1 t.toNat (by omega)).1 (by omega)
          rw [show ((t.toNat : Nat) : Int) = t by omega] at this
          rw [this.2.2.1, this.1]
        · rw [if_neg c2]
          by_cases c3 : j < 12
          · rw [if_pos c3]
            obtain ⟨t, rfl⟩ : ∃ t, j = 8 + t := ⟨j - 8, by omega⟩
            rw [show 8 + t - 8 = t by omega, rf_ysC_ah (by omega) (by omega), if_neg (hA t.toNat (by omega))]
            have := ((h1 t.toNat (by omega)).1 (by omega)).2.1
            rw [show ((t.toNat : Nat) : Int) = t by omega] at this
            exact this
          · rw [if_neg c3]
            by_cases c4 : j = 12
            · rw [if_pos c4, c4, rf_ysC_sm, if_neg (hA 0 (by omega))]
            · rw [if_neg c4]
              by_cases c5 : j < 20
              · rw [if_pos c5]
                obtain ⟨k, rfl⟩ : ∃ k, j = 13 + k := ⟨j - 13, by omega⟩
                rw [rf_ysC_bn (by omega) (by omega), rf_ysC_bn (by omega) (by omega)]
                by_cases e : k = g
                · have := hF 0 (by omega)
                  rw [show 4 * g + ((0 : Nat) : Int) = 4 * g by omega] at this
                  rw [e, if_neg this, if_pos rfl]
                · rw [if_neg (show ¬ 13 + k = 13 + g by omega), h2 (4 * k).toNat (by omega) (by omega)]
              · rw [if_neg c5]
                obtain ⟨i, rfl⟩ : ∃ i, j = 20 + i := ⟨j - 20, by omega⟩
                rw [rf_ysC_fd (by omega) (by omega), rf_ysC_fd (by omega) (by omega), rf_ysC_bn g0 g1]
                by_cases e : 4 * g ≤ i ∧ i < 4 * g + 4
                · obtain ⟨t, ht⟩ : ∃ t : Nat, i = 4 * g + t := ⟨(i - 4 * g).toNat, by omega⟩
                  have ht4 : t < 4 := by omega
                  have x := ((h1 t ht4).1 (by omega)).2.2.2
                  have hq := hv.2 g.toNat t (by omega) ht4
                  rw [show 4 * g.toNat + t = (4 * g + t).toNat by omega, show 4 * g.toNat = (4 * g).toNat by omega] at hq
                  subst ht
                  rw [if_neg (hF t ht4), x]
                  by_cases f0 : rf_dc (4 * g + (t : Int)).toNat F0 = -1
                  · rw [if_pos f0, if_pos (hq.mp f0), if_pos ⟨by omega, by omega, rfl⟩, show 20 + (4 * g + (t : Int)) - 20 - 4 * g = t by omega, rf_ysC_lv (by omega) (by omega)]
                    rfl
                  · rw [if_neg f0, if_neg (fun h => f0 (hq.mpr h)), if_neg (by omega), if_neg f0]
                · rw [h2 i.toNat (by omega) (by omega), if_neg (show ¬ (20 + 4 * g ≤ 20 + i ∧ 20 + i < 24 + 4 * g ∧ _) from fun h => e ⟨by omega, by omega⟩)]
  · have a := hA t ht
    have b := hA 0 (by omega)
    exact ⟨fun h => absurd h a, fun h => absurd h b⟩
  · by_cases e : (k : Int) = g
    · have a := hF t ht
      have b := hF 0 (by omega)
      rw [show (4 * g + (t : Int)).toNat = 4 * k + t by omega] at a
      rw [show (4 * g + ((0 : Nat) : Int)).toNat = 4 * k by omega] at b
      exact ⟨fun h => absurd h a, fun h => absurd h b⟩
    · rw [h2 (4 * k + t) (by omega) (by omega), h2 (4 * k) (by omega) (by omega)]
      exact hv.2 k t hk ht
