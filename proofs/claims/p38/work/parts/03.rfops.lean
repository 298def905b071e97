/-! THE CHECKER, arithmetic: a result is new ghosts and a picture of the value -/
def rf_in32 (lo hi : Int) : Bool := decide (-2147483648 ≤ lo) && decide (hi ≤ 2147483647)
theorem rf_in32_spec {lo hi : Int} (h : rf_in32 lo hi = true) : -2147483648 ≤ lo ∧ hi ≤ 2147483647 := by
  simp only [rf_in32, Bool.and_eq_true, decide_eq_true_eq] at h
  exact h
def rf_fr (E : rf_EV) (t : Nat) (lo hi : Int) : rf_EV × rf_AV := (rf_new E (lo, hi, false), (t, E.1.length + 1, 0))
def rf_top (E : rf_EV) : rf_EV × rf_AV := rf_fr E 0 (-2147483648) 2147483647
def rf_ltop (E : rf_EV) : rf_EV × rf_AV := rf_fr E 1 (-9223372036854775808) 9223372036854775807
def rf_res (ρ : List Int) (ad : List Nat) (xt : Nat → Nat) (r : rf_EV × rf_AV) (v : Value) : Prop := ∃ l, rf_okE (ρ ++ l) r.1 ∧ rf_gv (ρ ++ l) ad xt r.2 v
section
variable {ρ : List Int} {ad : List Nat} {xt : Nat → Nat} {E : rf_EV}
theorem rf_res_same (hE : rf_okE ρ E) {a : rf_AV} {v : Value} (h : rf_gv ρ ad xt a v) : rf_res ρ ad xt (E, a) v := ⟨[], by simpa using hE, by simpa using h⟩
theorem rf_fr_int (hE : rf_okE ρ E) {lo hi : Int} {x : Int32} (h1 : lo ≤ x.toInt) (h2 : x.toInt ≤ hi) : rf_res ρ ad xt (rf_fr E 0 lo hi) (.int x) := by
  obtain ⟨a, b⟩ := rf_okE_new hE (q := (lo, hi, false)) h1 h2 (fun h => by cases h)
  exact ⟨[x.toInt], a, x, rfl, x.toInt, b, by simp [rf_fr]⟩
theorem rf_fr_long (hE : rf_okE ρ E) {lo hi : Int} {x : Int64} (h1 : lo ≤ x.toInt) (h2 : x.toInt ≤ hi) : rf_res ρ ad xt (rf_fr E 1 lo hi) (.long x) := by
  obtain ⟨a, b⟩ := rf_okE_new hE (q := (lo, hi, false)) h1 h2 (fun h => by cases h)
  exact ⟨[x.toInt], a, x, rfl, x.toInt, b, by simp [rf_fr]⟩
theorem rf_i32_lo (x : Int32) : -2147483648 ≤ x.toInt := by
  have := x.le_toInt
  omega
theorem rf_i32_hi (x : Int32) : x.toInt ≤ 2147483647 := by
  have := x.toInt_lt
  omega
theorem rf_i64_lo (x : Int64) : -9223372036854775808 ≤ x.toInt := by
  have := x.le_toInt
  omega
theorem rf_i64_hi (x : Int64) : x.toInt ≤ 9223372036854775807 := by
  have := x.toInt_lt
  omega
theorem rf_top_int (hE : rf_okE ρ E) (x : Int32) : rf_res ρ ad xt (rf_top E) (.int x) := rf_fr_int hE (rf_i32_lo x) (rf_i32_hi x)
theorem rf_ltop_long (hE : rf_okE ρ E) (x : Int64) : rf_res ρ ad xt (rf_ltop E) (.long x) := rf_fr_long hE (rf_i64_lo x) (rf_i64_hi x)
theorem rf_bm {z : Int} (h1 : -2147483648 ≤ z) (h2 : z ≤ 2147483647) : z.bmod (2 ^ 32) = z := Int.bmod_eq_of_le (by omega) (by omega)
def rf_rng (E : rf_EV) (lo hi : Int) : rf_EV × rf_AV := if rf_in32 lo hi then rf_fr E 0 lo hi else rf_top E
/-- z is the number meant, x what it is as an int -/
theorem rf_rng_int (hE : rf_okE ρ E) {lo hi z : Int} {x : Int32} (hx : x.toInt = z.bmod (2 ^ 32)) (h1 : lo ≤ z) (h2 : z ≤ hi) : rf_res ρ ad xt (rf_rng E lo hi) (.int x) := by
  unfold rf_rng
  split
  next h =>
    obtain ⟨a, b⟩ := rf_in32_spec h
    rw [rf_bm (by omega) (by omega)] at hx
    exact rf_fr_int hE (by omega) (by omega)
  next => exact rf_top_int hE x
/-- the int a and c -/
def rf_off (E : rf_EV) (a : rf_AV) (c : Int) : Option (rf_EV × rf_AV) :=
  match rf_gi E a.2.1 with
  | none => none
  | some q => if rf_in32 (q.1 + a.2.2 + c) (q.2.1 + a.2.2 + c) then some (E, (0, a.2.1, a.2.2 + c)) else some (rf_top E)
theorem rf_off_spec (hE : rf_okE ρ E) {g : Nat} {d c : Int} {w : rf_EV × rf_AV} {x z : Int32} {r : Int} (hr : rf_r ρ g = some r) (hx : x.toInt = r + d) (hz : z.toInt = (x.toInt + c).bmod (2 ^ 32)) (h : rf_off E (0, g, d) c = some w) : rf_res ρ ad xt w (.int z) := by
  unfold rf_off at h
  split at h
  next => cases h
  next q hq =>
    obtain ⟨r', a1, a2, a3, -⟩ := rf_gi_spec hE hq
    rw [hr] at a1
    cases a1
    split at h
    next hi =>
      cases h
      obtain ⟨b1, b2⟩ := rf_in32_spec hi
      dsimp only at b1 b2
      refine rf_res_same hE ⟨z, rfl, r, hr, ?_⟩
      rw [hz, rf_bm (by omega) (by omega)]
      dsimp only
      omega
    next =>
      cases h
      exact rf_top_int hE z
def rf_add (E : rf_EV) (a b : rf_AV) : Option (rf_EV × rf_AV) :=
  if Nat.beq b.2.1 0 then rf_off E a b.2.2
  else if Nat.beq a.2.1 0 then rf_off E b a.2.2
  else match rf_gi E a.2.1, rf_gi E b.2.1 with
    | some q, some q' => some (rf_rng E (q.1 + a.2.2 + (q'.1 + b.2.2)) (q.2.1 + a.2.2 + (q'.2.1 + b.2.2)))
    | _, _ => none
theorem rf_r0 {ρ : List Int} {g : Nat} {r : Int} (hg : Nat.beq g 0 = true) (hr : rf_r ρ g = some r) : r = 0 := by
  rw [Nat.eq_of_beq_eq_true hg] at hr
  exact (Option.some.inj hr).symm
theorem rf_ivl (hE : rf_okE ρ E) {g : Nat} {q : rf_GI} {r : Int} (hq : rf_gi E g = some q) (hr : rf_r ρ g = some r) : q.1 ≤ r ∧ r ≤ q.2.1 ∧ (q.2.2 = true → r ≠ 0) := by
  obtain ⟨r', a1, a2⟩ := rf_gi_spec hE hq
  rw [hr] at a1
  cases a1
  exact a2
theorem rf_add_spec (hE : rf_okE ρ E) {g h : Nat} {d e : Int} {w : rf_EV × rf_AV} {x y : Int32} (hx : rf_gv ρ ad xt (0, g, d) (.int x)) (hy : rf_gv ρ ad xt (0, h, e) (.int y)) (hw : rf_add E (0, g, d) (0, h, e) = some w) : rf_res ρ ad xt w (.int (x + y)) := by
  obtain ⟨x', ex, r, hr, hxr⟩ := hx
  cases ex
  obtain ⟨y', ey, r', hr', hyr⟩ := hy
  cases ey
  dsimp only at hxr hyr hr hr'
  unfold rf_add at hw
  split at hw
  next h0 =>
    have e0 := rf_r0 h0 hr'
    exact rf_off_spec hE hr hxr (by rw [Int32.toInt_add]; congr 1; dsimp only; omega) hw
  next =>
    split at hw
    next h0 =>
      have e0 := rf_r0 h0 hr
      exact rf_off_spec hE hr' hyr (by rw [Int32.toInt_add]; congr 1; dsimp only; omega) hw
    next =>
      split at hw
      next q q' hq hq' =>
        cases hw
        have i1 := rf_ivl hE hq hr
        have i2 := rf_ivl hE hq' hr'
        exact rf_rng_int hE (z := x.toInt + y.toInt) (Int32.toInt_add x y) (by dsimp only; omega) (by dsimp only; omega)
      next => cases hw
def rf_sub (E : rf_EV) (a b : rf_AV) : Option (rf_EV × rf_AV) :=
  if Nat.beq b.2.1 0 then rf_off E a (-b.2.2)
  else if Nat.beq a.2.1 b.2.1 then (if rf_in32 (a.2.2 - b.2.2) (a.2.2 - b.2.2) then some (E, (0, 0, a.2.2 - b.2.2)) else some (rf_top E))
  else match rf_gi E a.2.1, rf_gi E b.2.1 with
    | some q, some q' => some (rf_rng E (q.1 + a.2.2 - (q'.2.1 + b.2.2)) (q.2.1 + a.2.2 - (q'.1 + b.2.2)))
    | _, _ => none
theorem rf_sub_spec (hE : rf_okE ρ E) {g h : Nat} {d e : Int} {w : rf_EV × rf_AV} {x y : Int32} (hx : rf_gv ρ ad xt (0, g, d) (.int x)) (hy : rf_gv ρ ad xt (0, h, e) (.int y)) (hw : rf_sub E (0, g, d) (0, h, e) = some w) : rf_res ρ ad xt w (.int (x - y)) := by
  obtain ⟨x', ex, r, hr, hxr⟩ := hx
  cases ex
  obtain ⟨y', ey, r', hr', hyr⟩ := hy
  cases ey
  dsimp only at hxr hyr hr hr'
  unfold rf_sub at hw
  split at hw
  next h0 =>
    have e0 := rf_r0 h0 hr'
    exact rf_off_spec hE hr hxr (by rw [Int32.toInt_sub]; congr 1; dsimp only; omega) hw
  next =>
    split at hw
    next hgh =>
      have e1 := Nat.eq_of_beq_eq_true hgh
      dsimp only at e1
      subst e1
      rw [hr] at hr'
      cases hr'
      split at hw
      next hi =>
        cases hw
        obtain ⟨b1, b2⟩ := rf_in32_spec hi
        dsimp only at b1 b2
        refine rf_res_same hE ⟨x - y, rfl, 0, rfl, ?_⟩
        rw [Int32.toInt_sub, rf_bm (by omega) (by omega)]
        dsimp only
        omega
      next =>
        cases hw
        exact rf_top_int hE _
    next =>
      split at hw
      next q q' hq hq' =>
        cases hw
        have i1 := rf_ivl hE hq hr
        have i2 := rf_ivl hE hq' hr'
        exact rf_rng_int hE (z := x.toInt - y.toInt) (Int32.toInt_sub x y) (by dsimp only; omega) (by dsimp only; omega)
      next => cases hw
def rf_mul (E : rf_EV) (a b : rf_AV) : Option (rf_EV × rf_AV) :=
  match rf_gi E a.2.1, rf_gi E b.2.1 with
  | some q, some q' =>
    let l := q.1 + a.2.2
    let u := q.2.1 + a.2.2
    let l' := q'.1 + b.2.2
    let u' := q'.2.1 + b.2.2
    if l' = u' then (if l = u then (if rf_in32 (l * l') (l * l') then some (E, (0, 0, l * l')) else some (rf_top E)) else if 0 ≤ l' then some (rf_rng E (l * l') (u * l')) else some (rf_rng E (u * l') (l * l')))
    else if l = u then (if 0 ≤ l then some (rf_rng E (l * l') (l * u')) else some (rf_rng E (l * u') (l * l')))
    else if 0 ≤ l ∧ 0 ≤ l' then some (rf_rng E 0 (u * u')) else some (rf_top E)
  | _, _ => none
theorem rf_mul_spec (hE : rf_okE ρ E) {g h : Nat} {d e : Int} {w : rf_EV × rf_AV} {x y : Int32} (hx : rf_gv ρ ad xt (0, g, d) (.int x)) (hy : rf_gv ρ ad xt (0, h, e) (.int y)) (hw : rf_mul E (0, g, d) (0, h, e) = some w) : rf_res ρ ad xt w (.int (x * y)) := by
  obtain ⟨x', ex, r, hr, hxr⟩ := hx
  cases ex
  obtain ⟨y', ey, r', hr', hyr⟩ := hy
  cases ey
  dsimp only at hxr hyr hr hr'
  unfold rf_mul at hw
  split at hw
  next q q' hq hq' =>
    have i1 := rf_ivl hE hq hr
    have i2 := rf_ivl hE hq' hr'
    have x1 : q.1 + d ≤ x.toInt := by omega
    have x2 : x.toInt ≤ q.2.1 + d := by omega
    have y1 : q'.1 + e ≤ y.toInt := by omega
    have y2 : y.toInt ≤ q'.2.1 + e := by omega
    dsimp only at hw
    generalize q.1 + d = l at x1 hw
    generalize q.2.1 + d = u at x2 hw
    generalize q'.1 + e = l' at y1 hw
    generalize q'.2.1 + e = u' at y2 hw
    split at hw
    next hc =>
      have ey : y.toInt = l' := by omega
      split at hw
      next hc2 =>
        have ex : x.toInt = l := by omega
        split at hw
        next hi =>
          cases hw
          obtain ⟨b1, b2⟩ := rf_in32_spec hi
          refine rf_res_same hE ⟨x * y, rfl, 0, rfl, ?_⟩
          rw [Int32.toInt_mul, ex, ey, rf_bm b1 b2]
          dsimp only
          omega
        next =>
          cases hw
          exact rf_top_int hE _
      next =>
        split at hw
        next h0 =>
          cases hw
          refine rf_rng_int hE (z := x.toInt * y.toInt) (Int32.toInt_mul x y) ?_ ?_
          · rw [ey]; exact Int.mul_le_mul_of_nonneg_right x1 h0
          · rw [ey]; exact Int.mul_le_mul_of_nonneg_right x2 h0
        next h0 =>
          cases hw
          refine rf_rng_int hE (z := x.toInt * y.toInt) (Int32.toInt_mul x y) ?_ ?_
          · rw [ey]; exact Int.mul_le_mul_of_nonpos_right x2 (by omega)
          · rw [ey]; exact Int.mul_le_mul_of_nonpos_right x1 (by omega)
    next =>
      split at hw
      next hc2 =>
        have ex : x.toInt = l := by omega
        split at hw
        next h0 =>
          cases hw
          refine rf_rng_int hE (z := x.toInt * y.toInt) (Int32.toInt_mul x y) ?_ ?_
          · rw [ex]; exact Int.mul_le_mul_of_nonneg_left y1 h0
          · rw [ex]; exact Int.mul_le_mul_of_nonneg_left y2 h0
        next h0 =>
          cases hw
          refine rf_rng_int hE (z := x.toInt * y.toInt) (Int32.toInt_mul x y) ?_ ?_
          · rw [ex]; exact Int.mul_le_mul_of_nonpos_left (by omega) y2
          · rw [ex]; exact Int.mul_le_mul_of_nonpos_left (by omega) y1
      next =>
        split at hw
        next h0 =>
          cases hw
          refine rf_rng_int hE (z := x.toInt * y.toInt) (Int32.toInt_mul x y) ?_ ?_
          · exact Int.mul_nonneg (by omega) (by omega)
          · exact Int.mul_le_mul x2 y2 (by omega) (by omega)
        next =>
          cases hw
          exact rf_top_int hE _
  next => cases hw
/-- the divisor isn't 0 -/
def rf_nz (q : rf_GI) (d : Int) : Bool := decide (1 ≤ q.1 + d) || decide (q.2.1 + d ≤ -1) || (q.2.2 && decide (d = 0))
theorem rf_nz_spec (hE : rf_okE ρ E) {g : Nat} {q : rf_GI} {r d : Int} (hq : rf_gi E g = some q) (hr : rf_r ρ g = some r) (h : rf_nz q d = true) : r + d ≠ 0 := by
  have i := rf_ivl hE hq hr
  simp only [rf_nz, Bool.or_eq_true, Bool.and_eq_true, decide_eq_true_eq] at h
  rcases h with (h | h) | ⟨h, h'⟩
  · omega
  · omega
  · have := i.2.2 h
    omega
def rf_div (E : rf_EV) (a b : rf_AV) : Option (rf_EV × rf_AV) :=
  match rf_gi E a.2.1, rf_gi E b.2.1 with
  | some q, some q' =>
    if rf_nz q' b.2.2 then
      let l := q.1 + a.2.2
      let u := q.2.1 + a.2.2
      let l' := q'.1 + b.2.2
      let u' := q'.2.1 + b.2.2
      if 1 ≤ l' then
        (if 0 ≤ l ∧ l' = u' then some (rf_fr E 0 (l / l') (u / l')) else some (rf_fr E 0 (if l ≤ 0 then l else 0) (if 0 ≤ u then u else 0)))
      else some (rf_top E)
    else none
  | _, _ => none
theorem rf_ne_int {x : Int32} (h : x.toInt ≠ 0) : ¬ x = 0 := by
  intro e
  rw [e] at h
  exact h rfl
theorem rf_div_spec (hE : rf_okE ρ E) {g h : Nat} {d e : Int} {w : rf_EV × rf_AV} {x y : Int32} (hx : rf_gv ρ ad xt (0, g, d) (.int x)) (hy : rf_gv ρ ad xt (0, h, e) (.int y)) (hw : rf_div E (0, g, d) (0, h, e) = some w) : ¬ y = 0 ∧ rf_res ρ ad xt w (.int (x / y)) := by
  obtain ⟨x', ex, r, hr, hxr⟩ := hx
  cases ex
  obtain ⟨y', ey, r', hr', hyr⟩ := hy
  cases ey
  dsimp only at hxr hyr hr hr'
  unfold rf_div at hw
  split at hw
  next q q' hq hq' =>
    have i1 := rf_ivl hE hq hr
    have i2 := rf_ivl hE hq' hr'
    split at hw
    next hn =>
      have hne := rf_nz_spec hE hq' hr' hn
      refine ⟨rf_ne_int (by rw [hyr]; exact hne), ?_⟩
      have x1 : q.1 + d ≤ x.toInt := by omega
      have x2 : x.toInt ≤ q.2.1 + d := by omega
      have y1 : q'.1 + e ≤ y.toInt := by omega
      have y2 : y.toInt ≤ q'.2.1 + e := by omega
      dsimp only at hw
      generalize q.1 + d = l at x1 hw
      generalize q.2.1 + d = u at x2 hw
      generalize q'.1 + e = l' at y1 hw
      generalize q'.2.1 + e = u' at y2 hw
      split at hw
      next h1 =>
        have hy1 : y ≠ -1 := by
          intro z
          rw [z] at y1
          have : (-1 : Int32).toInt = -1 := by decide
          omega
        have hdiv : (x / y).toInt = x.toInt.tdiv y.toInt := Int32.toInt_div_of_ne_right x y hy1
        split at hw
        next h2 =>
          cases hw
          have ey : y.toInt = l' := by omega
          have e1 : x.toInt.tdiv y.toInt = x.toInt / l' := by rw [ey]; exact Int.tdiv_eq_ediv_of_nonneg (by omega)
          refine rf_fr_int hE ?_ ?_
          · rw [hdiv, e1]; exact Int.ediv_le_ediv (by omega) x1
          · rw [hdiv, e1]; exact Int.ediv_le_ediv (by omega) x2
        next =>
          cases hw
          by_cases hx0 : 0 ≤ x.toInt
          · have e1 : x.toInt.tdiv y.toInt = x.toInt / y.toInt := Int.tdiv_eq_ediv_of_nonneg hx0
            have e2 : 0 ≤ x.toInt / y.toInt := Int.ediv_nonneg hx0 (by omega)
            have e3 : x.toInt / y.toInt ≤ x.toInt := Int.ediv_le_self _ hx0
            refine rf_fr_int hE ?_ ?_
            · rw [hdiv, e1]; split <;> omega
            · rw [hdiv, e1]; split <;> omega
          · have e1 : x.toInt.tdiv y.toInt = -((-x.toInt) / y.toInt) := by
              have := Int.neg_tdiv (-x.toInt) y.toInt
              rw [Int.neg_neg] at this
              rw [this, Int.tdiv_eq_ediv_of_nonneg (by omega)]
            have e2 : 0 ≤ (-x.toInt) / y.toInt := Int.ediv_nonneg (by omega) (by omega)
            have e3 : (-x.toInt) / y.toInt ≤ -x.toInt := Int.ediv_le_self _ (by omega)
            refine rf_fr_int hE ?_ ?_
            · rw [hdiv, e1]; split <;> omega
            · rw [hdiv, e1]; split <;> omega
      next =>
        cases hw
        exact rf_top_int hE _
    next => cases hw
  next => cases hw
def rf_rem (E : rf_EV) (a b : rf_AV) : Option (rf_EV × rf_AV) :=
  match rf_gi E a.2.1, rf_gi E b.2.1 with
  | some q, some q' =>
    if rf_nz q' b.2.2 then
      let l := q.1 + a.2.2
      let u := q.2.1 + a.2.2
      let l' := q'.1 + b.2.2
      let u' := q'.2.1 + b.2.2
      if 1 ≤ l' then
        (if 0 ≤ l then (if l' = u' ∧ l / l' = u / l' then some (rf_fr E 0 (l % l') (u % l')) else some (rf_fr E 0 0 (if u ≤ u' - 1 then u else u' - 1))) else some (rf_fr E 0 (1 - u') (u' - 1)))
      else some (rf_top E)
    else none
  | _, _ => none
theorem rf_rem_spec (hE : rf_okE ρ E) {g h : Nat} {d e : Int} {w : rf_EV × rf_AV} {x y : Int32} (hx : rf_gv ρ ad xt (0, g, d) (.int x)) (hy : rf_gv ρ ad xt (0, h, e) (.int y)) (hw : rf_rem E (0, g, d) (0, h, e) = some w) : ¬ y = 0 ∧ rf_res ρ ad xt w (.int (x - x / y * y)) := by
  obtain ⟨x', ex, r, hr, hxr⟩ := hx
  cases ex
  obtain ⟨y', ey, r', hr', hyr⟩ := hy
  cases ey
  dsimp only at hxr hyr hr hr'
  unfold rf_rem at hw
  split at hw
  next q q' hq hq' =>
    have i1 := rf_ivl hE hq hr
    have i2 := rf_ivl hE hq' hr'
    split at hw
    next hn =>
      have hne := rf_nz_spec hE hq' hr' hn
      refine ⟨rf_ne_int (by rw [hyr]; exact hne), ?_⟩
      have x1 : q.1 + d ≤ x.toInt := by omega
      have x2 : x.toInt ≤ q.2.1 + d := by omega
      have y1 : q'.1 + e ≤ y.toInt := by omega
      have y2 : y.toInt ≤ q'.2.1 + e := by omega
      dsimp only at hw
      generalize q.1 + d = l at x1 hw
      generalize q.2.1 + d = u at x2 hw
      generalize q'.1 + e = l' at y1 hw
      generalize q'.2.1 + e = u' at y2 hw
      have hrem : (x - x / y * y).toInt = x.toInt.tmod y.toInt := rem_toInt x y
      split at hw
      next h1 =>
        have hb := tmod_bounds (a := x.toInt) (M := y.toInt) (by omega)
        split at hw
        next h2 =>
          have e1 : x.toInt.tmod y.toInt = x.toInt % y.toInt := Int.tmod_eq_emod_of_nonneg (by omega)
          have e2 : 0 ≤ x.toInt % y.toInt := Int.emod_nonneg _ (by omega)
          have e3 : x.toInt % y.toInt ≤ x.toInt := by
            have q1 := Int.emod_add_mul_ediv x.toInt y.toInt
            have q2 : 0 ≤ y.toInt * (x.toInt / y.toInt) := Int.mul_nonneg (by omega) (Int.ediv_nonneg (by omega) (by omega))
            omega
          split at hw
          next h5 =>
            cases hw
            have ey : y.toInt = l' := by omega
            have d1 : l / l' ≤ x.toInt / l' := Int.ediv_le_ediv (by omega) x1
            have d2 : x.toInt / l' ≤ u / l' := Int.ediv_le_ediv (by omega) x2
            have d3 : x.toInt / l' = l / l' := by omega
            have m1 := Int.emod_add_mul_ediv x.toInt l'
            have m2 := Int.emod_add_mul_ediv l l'
            have m3 := Int.emod_add_mul_ediv u l'
            rw [d3] at m1
            rw [← h5.2] at m3
            generalize l' * (l / l') = z at m1 m2 m3
            refine rf_fr_int hE ?_ ?_
            · rw [hrem, e1, ey]; omega
            · rw [hrem, e1, ey]; omega
          next =>
            cases hw
            refine rf_fr_int hE ?_ ?_
            · rw [hrem, e1]; exact e2
            · rw [hrem]; split <;> omega
        next =>
          cases hw
          refine rf_fr_int hE ?_ ?_
          · rw [hrem]; omega
          · rw [hrem]; omega
      next =>
        cases hw
        exact rf_top_int hE _
    next => cases hw
  next => cases hw
def rf_neg (E : rf_EV) (a : rf_AV) : Option (rf_EV × rf_AV) :=
  match rf_gi E a.2.1 with
  | some q => some (rf_rng E (-(q.2.1 + a.2.2)) (-(q.1 + a.2.2)))
  | none => none
theorem rf_neg_spec (hE : rf_okE ρ E) {g : Nat} {d : Int} {w : rf_EV × rf_AV} {x z : Int32} (hx : rf_gv ρ ad xt (0, g, d) (.int x)) (hz : z.toInt = (-x.toInt).bmod (2 ^ 32)) (hw : rf_neg E (0, g, d) = some w) : rf_res ρ ad xt w (.int z) := by
  obtain ⟨x', ex, r, hr, hxr⟩ := hx
  cases ex
  dsimp only at hxr hr
  unfold rf_neg at hw
  split at hw
  next q hq =>
    cases hw
    have i1 := rf_ivl hE hq hr
    exact rf_rng_int hE (z := -x.toInt) hz (by dsimp only; omega) (by dsimp only; omega)
  next => cases hw
/-- x &&& y, where y isn't below 0 -/
theorem rf_and_le (x y : Int32) (hy : 0 ≤ y.toInt) : 0 ≤ (x &&& y).toInt ∧ (x &&& y).toInt ≤ y.toInt := by
  have h1 : (x &&& y).toBitVec.toNat = x.toBitVec.toNat &&& y.toBitVec.toNat := by
    show (x.toBitVec &&& y.toBitVec).toNat = _
    rw [BitVec.toNat_and]
  have h2 : (x &&& y).toBitVec.toNat ≤ y.toBitVec.toNat := by rw [h1]; exact Nat.and_le_right
  have h3 : y.toBitVec.toInt = y.toInt := rfl
  have h4 : (x &&& y).toBitVec.toInt = (x &&& y).toInt := rfl
  have h5 : 2 * y.toBitVec.toNat < 2 ^ 32 := by
    rcases Nat.lt_or_ge (2 * y.toBitVec.toNat) (2 ^ 32) with q | q
    · exact q
    · have := BitVec.toInt_eq_toNat_cond y.toBitVec
      rw [if_neg (by omega), h3] at this
      have hlt := y.toBitVec.isLt
      omega
  have h6 : y.toInt = (y.toBitVec.toNat : Int) := by
    rw [← h3, BitVec.toInt_eq_toNat_cond, if_pos h5]
  have h7 : (x &&& y).toInt = ((x &&& y).toBitVec.toNat : Int) := by
    rw [← h4, BitVec.toInt_eq_toNat_cond, if_pos (by omega)]
  omega
def rf_and (E : rf_EV) (a b : rf_AV) : Option (rf_EV × rf_AV) :=
  match rf_gi E a.2.1, rf_gi E b.2.1 with
  | some q, some q' => if 0 ≤ q'.1 + b.2.2 then some (rf_fr E 0 0 (q'.2.1 + b.2.2)) else if 0 ≤ q.1 + a.2.2 then some (rf_fr E 0 0 (q.2.1 + a.2.2)) else some (rf_top E)
  | _, _ => none
theorem rf_and_spec (hE : rf_okE ρ E) {g h : Nat} {d e : Int} {w : rf_EV × rf_AV} {x y : Int32} (hx : rf_gv ρ ad xt (0, g, d) (.int x)) (hy : rf_gv ρ ad xt (0, h, e) (.int y)) (hw : rf_and E (0, g, d) (0, h, e) = some w) : rf_res ρ ad xt w (.int (x &&& y)) := by
  obtain ⟨x', ex, r, hr, hxr⟩ := hx
  cases ex
  obtain ⟨y', ey, r', hr', hyr⟩ := hy
  cases ey
  dsimp only at hxr hyr hr hr'
  unfold rf_and at hw
  split at hw
  next q q' hq hq' =>
    have i1 := rf_ivl hE hq hr
    have i2 := rf_ivl hE hq' hr'
    dsimp only at hw
    split at hw
    next h0 =>
      cases hw
      have k := rf_and_le x y (by omega)
      exact rf_fr_int hE k.1 (by omega)
    next =>
      split at hw
      next h0 =>
        cases hw
        have k := rf_and_le y x (by omega)
        rw [show x &&& y = y &&& x from Int32.and_comm x y]
        exact rf_fr_int hE k.1 (by omega)
      next =>
        cases hw
        exact rf_top_int hE _
  next => cases hw
/-- the int a as it is, if it lies within lo .. hi, else something there -/
def rf_nar (E : rf_EV) (a : rf_AV) (lo hi : Int) : Option (rf_EV × rf_AV) :=
  match rf_gi E a.2.1 with
  | some q => if lo ≤ q.1 + a.2.2 ∧ q.2.1 + a.2.2 ≤ hi then some (E, (0, a.2.1, a.2.2)) else some (rf_fr E 0 lo hi)
  | none => none
theorem rf_nar_spec (hE : rf_okE ρ E) {t g : Nat} {d lo hi : Int} {w : rf_EV × rf_AV} {r : Int} {z : Int32} (hr : rf_r ρ g = some r) (hz : lo ≤ r + d → r + d ≤ hi → z.toInt = r + d) (hb : lo ≤ z.toInt ∧ z.toInt ≤ hi) (hw : rf_nar E (t, g, d) lo hi = some w) : rf_res ρ ad xt w (.int z) := by
  unfold rf_nar at hw
  split at hw
  next q hq =>
    have i1 := rf_ivl hE hq hr
    split at hw
    next h0 =>
      cases hw
      dsimp only at h0
      exact rf_res_same hE ⟨z, rfl, r, hr, hz (by omega) (by omega)⟩
    next =>
      cases hw
      exact rf_fr_int hE hb.1 hb.2
  next => cases hw
theorem rf_i2b {x : Int32} : (-128 ≤ x.toInt → x.toInt ≤ 127 → x.toInt8.toInt32.toInt = x.toInt) ∧ -128 ≤ x.toInt8.toInt32.toInt ∧ x.toInt8.toInt32.toInt ≤ 127 := by
  have e : x.toInt8.toInt32.toInt = x.toInt8.toInt := Int8.toInt_toInt32 _
  have e2 : x.toInt8.toInt = x.toInt.bmod (2 ^ 8) := Int32.toInt_toInt8 x
  refine ⟨fun h1 h2 => ?_, ?_, ?_⟩
  · rw [e, e2]; exact Int.bmod_eq_of_le (by omega) (by omega)
  · rw [e]; have := x.toInt8.le_toInt; omega
  · rw [e]; have := x.toInt8.toInt_lt; omega
theorem rf_i2s {x : Int32} : (-32768 ≤ x.toInt → x.toInt ≤ 32767 → x.toInt16.toInt32.toInt = x.toInt) ∧ -32768 ≤ x.toInt16.toInt32.toInt ∧ x.toInt16.toInt32.toInt ≤ 32767 := by
  have e : x.toInt16.toInt32.toInt = x.toInt16.toInt := Int16.toInt_toInt32 _
  have e2 : x.toInt16.toInt = x.toInt.bmod (2 ^ 16) := Int32.toInt_toInt16 x
  refine ⟨fun h1 h2 => ?_, ?_, ?_⟩
  · rw [e, e2]; exact Int.bmod_eq_of_le (by omega) (by omega)
  · rw [e]; have := x.toInt16.le_toInt; omega
  · rw [e]; have := x.toInt16.toInt_lt; omega
theorem rf_l2i {x : Int64} : (-2147483648 ≤ x.toInt → x.toInt ≤ 2147483647 → x.toInt32.toInt = x.toInt) := by
  have e2 : x.toInt32.toInt = x.toInt.bmod (2 ^ 32) := Int64.toInt_toInt32 x
  intro h1 h2
  rw [e2]
  exact Int.bmod_eq_of_le (by omega) (by omega)
/-- both ends of a comparison: what is told where it holds, and where not (none: that can't be) -/
def rf_lt (E : rf_EV) (a b : rf_AV) : Option rf_EV := rf_addc E a.2.1 b.2.1 (b.2.2 - a.2.2 - 1)
def rf_le (E : rf_EV) (a b : rf_AV) : Option rf_EV := rf_addc E a.2.1 b.2.1 (b.2.2 - a.2.2)
def rf_eq (E : rf_EV) (a b : rf_AV) : Option rf_EV := match rf_le E a b with
  | some E1 => rf_le E1 b a
  | none => none
def rf_ne (E : rf_EV) (a b : rf_AV) : Option rf_EV := rf_nec E a.2.1 a.2.2 b.2.1 b.2.2
theorem rf_lt_spec (hE : rf_okE ρ E) {g h : Nat} {d e : Int} {x y : Int32} (hx : rf_gv ρ ad xt (0, g, d) (.int x)) (hy : rf_gv ρ ad xt (0, h, e) (.int y)) (hc : x < y) : ∃ E', rf_lt E (0, g, d) (0, h, e) = some E' ∧ rf_okE ρ E' := by
  obtain ⟨x', ex, r, hr, hxr⟩ := hx
  cases ex
  obtain ⟨y', ey, r', hr', hyr⟩ := hy
  cases ey
  dsimp only at hxr hyr hr hr'
  have := Int32.lt_iff_toInt_lt.mp hc
  exact rf_addc_spec hE hr hr' (by dsimp only; omega)
theorem rf_le_spec (hE : rf_okE ρ E) {g h : Nat} {d e : Int} {x y : Int32} (hx : rf_gv ρ ad xt (0, g, d) (.int x)) (hy : rf_gv ρ ad xt (0, h, e) (.int y)) (hc : x ≤ y) : ∃ E', rf_le E (0, g, d) (0, h, e) = some E' ∧ rf_okE ρ E' := by
  obtain ⟨x', ex, r, hr, hxr⟩ := hx
  cases ex
  obtain ⟨y', ey, r', hr', hyr⟩ := hy
  cases ey
  dsimp only at hxr hyr hr hr'
  have := Int32.le_iff_toInt_le.mp hc
  exact rf_addc_spec hE hr hr' (by dsimp only; omega)
theorem rf_eq_spec (hE : rf_okE ρ E) {g h : Nat} {d e : Int} {x y : Int32} (hx : rf_gv ρ ad xt (0, g, d) (.int x)) (hy : rf_gv ρ ad xt (0, h, e) (.int y)) (hc : x = y) : ∃ E', rf_eq E (0, g, d) (0, h, e) = some E' ∧ rf_okE ρ E' := by
  subst hc
  obtain ⟨E1, e1, h1⟩ := rf_le_spec hE hx hy (Int32.le_refl x)
  obtain ⟨E2, e2, h2⟩ := rf_le_spec h1 hy hx (Int32.le_refl x)
  exact ⟨E2, by simp only [rf_eq, e1, e2], h2⟩
theorem rf_ne_spec (hE : rf_okE ρ E) {g h : Nat} {d e : Int} {x y : Int32} (hx : rf_gv ρ ad xt (0, g, d) (.int x)) (hy : rf_gv ρ ad xt (0, h, e) (.int y)) (hc : ¬ x = y) : ∃ E', rf_ne E (0, g, d) (0, h, e) = some E' ∧ rf_okE ρ E' := by
  obtain ⟨x', ex, r, hr, hxr⟩ := hx
  cases ex
  obtain ⟨y', ey, r', hr', hyr⟩ := hy
  cases ey
  dsimp only at hxr hyr hr hr'
  exact rf_nec_spec hE hr hr' (fun z => hc (Int32.toInt_inj.mp (by rw [hxr, hyr]; exact z)))
end
