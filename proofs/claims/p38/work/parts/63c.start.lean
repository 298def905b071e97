/-! the start: classes, rows, texts as the Statement gives them -/
theorem st_tab {args : Array Value} {s : State} {F : List Cond} {C n d : String} {A : Nat → Prop} (cs : List Int) (hs : ∀ w ∈ F, w.before args s = true) (hl : (Cond.laysStatic C n d).before args s = true) (hini : (Cond.initialized C).before args s = true) (hA : ∀ a : Nat, a < s.heap.size → ¬ A a) (hN : cs.length < 2 ^ 31) (m1 : Cond.arrayOf (.static C n d) .int ∈ F) (m2 : Cond.eq (.length (.static C n d)) (.int (Int32.ofNat cs.length)) ∈ F) (m3 : ∀ j, j < cs.length → Cond.eq (.elem (.static C n d) (.int (Int32.ofNat j))) (.int (Int32.ofInt (cs.getD j 0))) ∈ F) : ∃ t : Nat, va_Z C n d (.ref t) A s s.heap ∧ va_T .int t cs.length (fun j => .int (Int32.ofInt (cs.getD j 0))) A s s.heap := by
  obtain ⟨t, h1, h2⟩ := va_Tof (f := fun j => .int (Int32.ofInt (cs.getD j 0))) (A := A) hN (hs _ m1) (va_eqt (hs _ m2)) (fun j hj => va_eqt (hs _ (m3 j hj))) hA
  exact ⟨t, va_Zref hl hini h1 hA, h2⟩
theorem st_arr {args : Array Value} {s : State} {ty : FieldType} (h : (Cond.arrayClass ty).before args s = true) : ∃ cA : ClassId, ArrOfT s cA ty ∧ s.vm.findClass ("[" ++ ty.toString) = some cA := by
  obtain ⟨cA, kA, comp, h1, h2, h3⟩ := Cond.arrayClass_spec h
  exact ⟨cA, fun n z => ⟨fun k h => (by cases h), kA, h2, comp, h3⟩, h1⟩
theorem st_over {args : Array Value} {s : State} {C : String} (h : (Cond.arrayOver (.object C)).before args s = true) : ∃ cA : ClassId, ArrOfT s cA (.object C) ∧ va_RA s cA (.object C) := by
  obtain ⟨comp, c, k, h1, h2, h3, h4, h5⟩ := Cond.arrayOver_spec h
  exact ⟨c, fun n z => ⟨fun k h => (by cases h), k, h3, comp, h4⟩, k, comp, h3, h4, h1, h5⟩
theorem st_inst : ∀ (i : Nat) (r : vw_C), nm_cl[i]? = some r → Cond.instantiable r.1 r.2.2 ∈ lw_tbl := by
  intro i r h
  match i, h with
  | 0, h => cases h; exact (List.mem_of_getElem? (i := 287) (by decide +kernel))
  | 1, h => cases h; exact (List.mem_of_getElem? (i := 232) (by decide +kernel))
  | 2, h => cases h; exact (List.mem_of_getElem? (i := 152) (by decide +kernel))
  | 3, h => cases h; exact (List.mem_of_getElem? (i := 112) (by decide +kernel))
  | 4, h => cases h; exact (List.mem_of_getElem? (i := 209) (by decide +kernel))
  | 5, h => cases h; exact (List.mem_of_getElem? (i := 372) (by decide +kernel))
  | 6, h => cases h; exact (List.mem_of_getElem? (i := 179) (by decide +kernel))
  | 7, h => cases h; exact (List.mem_of_getElem? (i := 390) (by decide +kernel))
  | 8, h => cases h; exact (List.mem_of_getElem? (i := 257) (by decide +kernel))
  | 9, h => cases h; exact (List.mem_of_getElem? (i := 315) (by decide +kernel))
  | 10, h => cases h; exact (List.mem_of_getElem? (i := 104) (by decide +kernel))
  | 11, h => cases h; exact (List.mem_of_getElem? (i := 1150) (by decide +kernel))
  | n + 12, h => simp [nm_cl] at h
theorem st_cls {args : Array Value} {s : State} (hts : ∀ w ∈ lw_tbl, w.before args s = true) : ∃ D : va_G, ∀ (k : Nat) (q : vw_C), nm_cl[k]? = some q → u_Kn s q.1 q.2.1 q.2.2 (D.1 k) (D.2 k) := by
  have hg : ∀ w ∈ en_G, w.before args s = true := fun w h => hts w (List.mem_filter.mp h).1
  have h0 : ∀ i : Nat, ∃ q : ClassId × (Nat → Nat), ∀ r : vw_C, nm_cl[i]? = some r → u_Kn s r.1 r.2.1 r.2.2 q.1 q.2 := by
    intro i
    cases h : nm_cl[i]? with
    | none => exact ⟨(0, fun _ => 0), fun r hr => by cases hr⟩
    | some r =>
      obtain ⟨C, T, N⟩ := r
      obtain ⟨ty, -, -, -, hw⟩ := en_CL i C T N h
      obtain ⟨cC, iS, hK⟩ := u_known (C := C) (T := T) (N := N) (n := N) hg hw (hts _ (st_inst i _ h))
      exact ⟨(cC, iS), fun r hr => by cases hr; exact hK⟩
  obtain ⟨f, hf⟩ := Classical.axiomOfChoice h0
  exact ⟨(fun i => (f i).1, fun i => (f i).2), fun k q hq => hf k q hq⟩
def st_xt (t0 t1 t2 t3 t4 t5 t6 k0 k1 v0 v1 b L : Nat) (xs : Nat → Int32) : Nat → Nat
  | 0 => t0
  | 1 => t1
  | 2 => t2
  | 3 => t3
  | 4 => t4
  | 5 => t5
  | 6 => t6
  | 7 => k0
  | 8 => k1
  | 9 => v0
  | 10 => v1
  | 11 => b
  | 12 => L
  | k + 13 => ((xs k).toInt + 2147483648).toNat
def st_F : List Cond := flatC (Jvm.Cond.and given_1 narrow_1)
def st_tm (i : Nat) : Term := .string "LeftAsFound$Law" (if i = 0 then 87 else 68)
theorem st_m0 : Cond.arrayOf (.static "LeftAsFound$House" "FIRST" "[I") .int ∈ st_F ∧ Cond.eq (.length (.static "LeftAsFound$House" "FIRST" "[I")) (.int (Int32.ofNat (List.length (α := Int) [0, 4, 8, 36, 64, 71, 78, 79, 80]))) ∈ st_F ∧ ∀ j, j < List.length (α := Int) [0, 4, 8, 36, 64, 71, 78, 79, 80] → Cond.eq (.elem (.static "LeftAsFound$House" "FIRST" "[I") (.int (Int32.ofNat j))) (.int (Int32.ofInt (List.getD (α := Int) [0, 4, 8, 36, 64, 71, 78, 79, 80] j 0))) ∈ st_F := by decide +kernel
theorem st_t0 {b : Nat} {s : State} (hts : ∀ w ∈ lw_tbl, w.before #[Value.ref b] s = true) (hgv : (Jvm.Cond.and given_1 narrow_1).before #[Value.ref b] s = true) {A : Nat → Prop} (hA : ∀ a : Nat, a < s.heap.size → ¬ A a) : ∃ t : Nat, va_Z "LeftAsFound$House" "FIRST" "[I" (.ref t) A s s.heap ∧ va_T .int t (List.length (α := Int) [0, 4, 8, 36, 64, 71, 78, 79, 80]) (fun j => .int (Int32.ofInt (List.getD (α := Int) [0, 4, 8, 36, 64, 71, 78, 79, 80] j 0))) A s s.heap := st_tab [0, 4, 8, 36, 64, 71, 78, 79, 80] (flat_of_before _ hgv) (hts _ (List.mem_of_getElem? (i := 160) (by decide +kernel))) (hts _ (List.mem_of_getElem? (i := 86) (by decide +kernel))) hA (by decide) st_m0.1 st_m0.2.1 st_m0.2.2
theorem st_m1 : Cond.arrayOf (.static "LeftAsFound$House" "TOP" "[I") .int ∈ st_F ∧ Cond.eq (.length (.static "LeftAsFound$House" "TOP" "[I")) (.int (Int32.ofNat (List.length (α := Int) [99, 9, 9, 20, 50, 3, 50, 999, 12]))) ∈ st_F ∧ ∀ j, j < List.length (α := Int) [99, 9, 9, 20, 50, 3, 50, 999, 12] → Cond.eq (.elem (.static "LeftAsFound$House" "TOP" "[I") (.int (Int32.ofNat j))) (.int (Int32.ofInt (List.getD (α := Int) [99, 9, 9, 20, 50, 3, 50, 999, 12] j 0))) ∈ st_F := by decide +kernel
theorem st_t1 {b : Nat} {s : State} (hts : ∀ w ∈ lw_tbl, w.before #[Value.ref b] s = true) (hgv : (Jvm.Cond.and given_1 narrow_1).before #[Value.ref b] s = true) {A : Nat → Prop} (hA : ∀ a : Nat, a < s.heap.size → ¬ A a) : ∃ t : Nat, va_Z "LeftAsFound$House" "TOP" "[I" (.ref t) A s s.heap ∧ va_T .int t (List.length (α := Int) [99, 9, 9, 20, 50, 3, 50, 999, 12]) (fun j => .int (Int32.ofInt (List.getD (α := Int) [99, 9, 9, 20, 50, 3, 50, 999, 12] j 0))) A s s.heap := st_tab [99, 9, 9, 20, 50, 3, 50, 999, 12] (flat_of_before _ hgv) (hts _ (List.mem_of_getElem? (i := 478) (by decide +kernel))) (hts _ (List.mem_of_getElem? (i := 86) (by decide +kernel))) hA (by decide) st_m1.1 st_m1.2.1 st_m1.2.2
theorem st_m2 : Cond.arrayOf (.static "LeftAsFound$House" "AT_FIRST" "[I") .int ∈ st_F ∧ Cond.eq (.length (.static "LeftAsFound$House" "AT_FIRST" "[I")) (.int (Int32.ofNat (List.length (α := Int) [50, 1, 1, 0, 5, 0, 50, 20, 6]))) ∈ st_F ∧ ∀ j, j < List.length (α := Int) [50, 1, 1, 0, 5, 0, 50, 20, 6] → Cond.eq (.elem (.static "LeftAsFound$House" "AT_FIRST" "[I") (.int (Int32.ofNat j))) (.int (Int32.ofInt (List.getD (α := Int) [50, 1, 1, 0, 5, 0, 50, 20, 6] j 0))) ∈ st_F := by decide +kernel
theorem st_t2 {b : Nat} {s : State} (hts : ∀ w ∈ lw_tbl, w.before #[Value.ref b] s = true) (hgv : (Jvm.Cond.and given_1 narrow_1).before #[Value.ref b] s = true) {A : Nat → Prop} (hA : ∀ a : Nat, a < s.heap.size → ¬ A a) : ∃ t : Nat, va_Z "LeftAsFound$House" "AT_FIRST" "[I" (.ref t) A s s.heap ∧ va_T .int t (List.length (α := Int) [50, 1, 1, 0, 5, 0, 50, 20, 6]) (fun j => .int (Int32.ofInt (List.getD (α := Int) [50, 1, 1, 0, 5, 0, 50, 20, 6] j 0))) A s s.heap := st_tab [50, 1, 1, 0, 5, 0, 50, 20, 6] (flat_of_before _ hgv) (hts _ (List.mem_of_getElem? (i := 162) (by decide +kernel))) (hts _ (List.mem_of_getElem? (i := 86) (by decide +kernel))) hA (by decide) st_m2.1 st_m2.2.1 st_m2.2.2
theorem st_m3 : Cond.arrayOf (.static "LeftAsFound$House" "HOW_MANY" "[I") .int ∈ st_F ∧ Cond.eq (.length (.static "LeftAsFound$House" "HOW_MANY" "[I")) (.int (Int32.ofNat (List.length (α := Int) [4, 4, 28, 28, 7, 7, 1, 1, 1]))) ∈ st_F ∧ ∀ j, j < List.length (α := Int) [4, 4, 28, 28, 7, 7, 1, 1, 1] → Cond.eq (.elem (.static "LeftAsFound$House" "HOW_MANY" "[I") (.int (Int32.ofNat j))) (.int (Int32.ofInt (List.getD (α := Int) [4, 4, 28, 28, 7, 7, 1, 1, 1] j 0))) ∈ st_F := by decide +kernel
theorem st_t3 {b : Nat} {s : State} (hts : ∀ w ∈ lw_tbl, w.before #[Value.ref b] s = true) (hgv : (Jvm.Cond.and given_1 narrow_1).before #[Value.ref b] s = true) {A : Nat → Prop} (hA : ∀ a : Nat, a < s.heap.size → ¬ A a) : ∃ t : Nat, va_Z "LeftAsFound$House" "HOW_MANY" "[I" (.ref t) A s s.heap ∧ va_T .int t (List.length (α := Int) [4, 4, 28, 28, 7, 7, 1, 1, 1]) (fun j => .int (Int32.ofInt (List.getD (α := Int) [4, 4, 28, 28, 7, 7, 1, 1, 1] j 0))) A s s.heap := st_tab [4, 4, 28, 28, 7, 7, 1, 1, 1] (flat_of_before _ hgv) (hts _ (List.mem_of_getElem? (i := 158) (by decide +kernel))) (hts _ (List.mem_of_getElem? (i := 86) (by decide +kernel))) hA (by decide) st_m3.1 st_m3.2.1 st_m3.2.2
theorem st_m4 : Cond.arrayOf (.static "LeftAsFound$Law" "LEVEL_OF" "[I") .int ∈ st_F ∧ Cond.eq (.length (.static "LeftAsFound$Law" "LEVEL_OF" "[I")) (.int (Int32.ofNat (List.length (α := Int) [0, 1, 2, 2, 2, 3, 3, 4, 4, 4]))) ∈ st_F ∧ ∀ j, j < List.length (α := Int) [0, 1, 2, 2, 2, 3, 3, 4, 4, 4] → Cond.eq (.elem (.static "LeftAsFound$Law" "LEVEL_OF" "[I") (.int (Int32.ofNat j))) (.int (Int32.ofInt (List.getD (α := Int) [0, 1, 2, 2, 2, 3, 3, 4, 4, 4] j 0))) ∈ st_F := by decide +kernel
theorem st_t4 {b : Nat} {s : State} (hts : ∀ w ∈ lw_tbl, w.before #[Value.ref b] s = true) (hgv : (Jvm.Cond.and given_1 narrow_1).before #[Value.ref b] s = true) {A : Nat → Prop} (hA : ∀ a : Nat, a < s.heap.size → ¬ A a) : ∃ t : Nat, va_Z "LeftAsFound$Law" "LEVEL_OF" "[I" (.ref t) A s s.heap ∧ va_T .int t (List.length (α := Int) [0, 1, 2, 2, 2, 3, 3, 4, 4, 4]) (fun j => .int (Int32.ofInt (List.getD (α := Int) [0, 1, 2, 2, 2, 3, 3, 4, 4, 4] j 0))) A s s.heap := st_tab [0, 1, 2, 2, 2, 3, 3, 4, 4, 4] (flat_of_before _ hgv) (hts _ (List.mem_of_getElem? (i := 693) (by decide +kernel))) (hts _ (List.mem_of_getElem? (i := 85) (by decide +kernel))) hA (by decide) st_m4.1 st_m4.2.1 st_m4.2.2
theorem st_m5 : Cond.arrayOf (.static "LeftAsFound$Bodies" "ABOVE" "[I") .int ∈ st_F ∧ Cond.eq (.length (.static "LeftAsFound$Bodies" "ABOVE" "[I")) (.int (Int32.ofNat (List.length (α := Int) [-1, 0, 0, 2, 1, 3, 0, 6]))) ∈ st_F ∧ ∀ j, j < List.length (α := Int) [-1, 0, 0, 2, 1, 3, 0, 6] → Cond.eq (.elem (.static "LeftAsFound$Bodies" "ABOVE" "[I") (.int (Int32.ofNat j))) (.int (Int32.ofInt (List.getD (α := Int) [-1, 0, 0, 2, 1, 3, 0, 6] j 0))) ∈ st_F := by decide +kernel
theorem st_t5 {b : Nat} {s : State} (hts : ∀ w ∈ lw_tbl, w.before #[Value.ref b] s = true) (hgv : (Jvm.Cond.and given_1 narrow_1).before #[Value.ref b] s = true) {A : Nat → Prop} (hA : ∀ a : Nat, a < s.heap.size → ¬ A a) : ∃ t : Nat, va_Z "LeftAsFound$Bodies" "ABOVE" "[I" (.ref t) A s s.heap ∧ va_T .int t (List.length (α := Int) [-1, 0, 0, 2, 1, 3, 0, 6]) (fun j => .int (Int32.ofInt (List.getD (α := Int) [-1, 0, 0, 2, 1, 3, 0, 6] j 0))) A s s.heap := st_tab [-1, 0, 0, 2, 1, 3, 0, 6] (flat_of_before _ hgv) (hts _ (List.mem_of_getElem? (i := 1073) (by decide +kernel))) (hts _ (List.mem_of_getElem? (i := 91) (by decide +kernel))) hA (by decide) st_m5.1 st_m5.2.1 st_m5.2.2
theorem st_m6 : Cond.arrayOf (.static "LeftAsFound$Bodies" "OWN" "[I") .int ∈ st_F ∧ Cond.eq (.length (.static "LeftAsFound$Bodies" "OWN" "[I")) (.int (Int32.ofNat (List.length (α := Int) [1, 10, 11, 2, 20, 0, 0, 0, 0, 30, 0, 0, 0, 41, 40, 0, 0, 0, 0, 50, 0, 0, 60, 61, 70, 0, 0, 0, 81, 80, 0, 0]))) ∈ st_F ∧ ∀ j, j < List.length (α := Int) [1, 10, 11, 2, 20, 0, 0, 0, 0, 30, 0, 0, 0, 41, 40, 0, 0, 0, 0, 50, 0, 0, 60, 61, 70, 0, 0, 0, 81, 80, 0, 0] → Cond.eq (.elem (.static "LeftAsFound$Bodies" "OWN" "[I") (.int (Int32.ofNat j))) (.int (Int32.ofInt (List.getD (α := Int) [1, 10, 11, 2, 20, 0, 0, 0, 0, 30, 0, 0, 0, 41, 40, 0, 0, 0, 0, 50, 0, 0, 60, 61, 70, 0, 0, 0, 81, 80, 0, 0] j 0))) ∈ st_F := by decide +kernel
theorem st_t6 {b : Nat} {s : State} (hts : ∀ w ∈ lw_tbl, w.before #[Value.ref b] s = true) (hgv : (Jvm.Cond.and given_1 narrow_1).before #[Value.ref b] s = true) {A : Nat → Prop} (hA : ∀ a : Nat, a < s.heap.size → ¬ A a) : ∃ t : Nat, va_Z "LeftAsFound$Bodies" "OWN" "[I" (.ref t) A s s.heap ∧ va_T .int t (List.length (α := Int) [1, 10, 11, 2, 20, 0, 0, 0, 0, 30, 0, 0, 0, 41, 40, 0, 0, 0, 0, 50, 0, 0, 60, 61, 70, 0, 0, 0, 81, 80, 0, 0]) (fun j => .int (Int32.ofInt (List.getD (α := Int) [1, 10, 11, 2, 20, 0, 0, 0, 0, 30, 0, 0, 0, 41, 40, 0, 0, 0, 0, 50, 0, 0, 60, 61, 70, 0, 0, 0, 81, 80, 0, 0] j 0))) A s s.heap := st_tab [1, 10, 11, 2, 20, 0, 0, 0, 0, 30, 0, 0, 0, 41, 40, 0, 0, 0, 0, 50, 0, 0, 60, 61, 70, 0, 0, 0, 81, 80, 0, 0] (flat_of_before _ hgv) (hts _ (List.mem_of_getElem? (i := 1071) (by decide +kernel))) (hts _ (List.mem_of_getElem? (i := 91) (by decide +kernel))) hA (by decide) st_m6.1 st_m6.2.1 st_m6.2.2
theorem st_sm : (∀ i, i < 2 → Cond.exactly (st_tm i) "java/lang/String" ∈ st_F) ∧ (∀ i, i < 2 → Cond.eq (.field (st_tm i) "java/lang/String" "coder" "B") (.int 0) ∈ st_F) ∧ (∀ i, i < 2 → Cond.arrayOf (.field (st_tm i) "java/lang/String" "value" "[B") .byte ∈ st_F) ∧ (∀ i, i < 2 → Cond.eq (.length (.field (st_tm i) "java/lang/String" "value" "[B")) (.int (Int32.ofNat (List.getD (α := Nat) [6, 10] i 0))) ∈ st_F) ∧ (∀ i, i < 2 → ∀ j, j < List.getD (α := Nat) [6, 10] i 0 → Cond.eq (.elem (.field (st_tm i) "java/lang/String" "value" "[B") (.int (Int32.ofNat j))) (.int ((en_byt.getD i []).getD j 0)) ∈ st_F) ∧ Cond.not (Cond.eq (st_tm 0) (st_tm 1)) ∈ st_F := by decide +kernel
theorem st_cs : Cond.eq (.static "java/lang/String" "COMPACT_STRINGS" "Z") (.int 1) ∈ st_F := by decide +kernel
theorem st_N {b L : Nat} {s : State} {xs : Nat → Int32} (hts : ∀ w ∈ lw_tbl, w.before #[Value.ref b] s = true) (hgv : (Jvm.Cond.and given_1 narrow_1).before #[Value.ref b] s = true) {A : Nat → Prop} (hA : ∀ a : Nat, a < s.heap.size → ¬ A a) : ∃ xt : Nat → Nat, xt 11 = b ∧ xt 12 = L ∧ (∀ k, xt (13 + k) = ((xs k).toInt + 2147483648).toNat) ∧ en_N xt A s := by
  have hs : ∀ w ∈ st_F, w.before #[Value.ref b] s = true := flat_of_before _ hgv
  obtain ⟨t0, z0, y0⟩ := st_t0 hts hgv hA
  obtain ⟨t1, z1, y1⟩ := st_t1 hts hgv hA
  obtain ⟨t2, z2, y2⟩ := st_t2 hts hgv hA
  obtain ⟨t3, z3, y3⟩ := st_t3 hts hgv hA
  obtain ⟨t4, z4, y4⟩ := st_t4 hts hgv hA
  obtain ⟨t5, z5, y5⟩ := st_t5 hts hgv hA
  obtain ⟨t6, z6, y6⟩ := st_t6 hts hgv hA
  obtain ⟨m1, m2, m3, m4, m5, m6⟩ := st_sm
  obtain ⟨adK, adV, hS, hE⟩ := vk_Sof (N := 2) (tm := st_tm) (len := [6, 10]) (byt := en_byt) (A := A) (args := #[Value.ref b]) (s := s) (by decide) (fun i hi => hs _ (m1 i hi)) (fun i hi => hs _ (m2 i hi)) (fun i hi => hs _ (m3 i hi)) (fun i hi => hs _ (m4 i hi)) (fun i hi j hj => hs _ (m5 i hi j hj)) (fun i j hi hj hij => by
    rcases (show (i = 0 ∧ j = 1) ∨ (i = 1 ∧ j = 0) by omega) with ⟨rfl, rfl⟩ | ⟨rfl, rfl⟩
    · exact Or.inl (hs _ m6)
    · exact Or.inr (hs _ m6)) hA
  refine ⟨st_xt t0 t1 t2 t3 t4 t5 t6 (adK 0) (adK 1) (adV 0) (adV 1) b L xs, rfl, rfl, fun k => by rw [Nat.add_comm]; rfl, ?_, ?_, ?_, ?_, ?_, ?_, ?_, ?_⟩
  · intro k cs hk
    match k, hk with
    | 0, hk => cases hk; exact ⟨y0, by decide⟩
    | 1, hk => cases hk; exact ⟨y1, by decide⟩
    | 2, hk => cases hk; exact ⟨y2, by decide⟩
    | 3, hk => cases hk; exact ⟨y3, by decide⟩
    | 4, hk => cases hk; exact ⟨y4, by decide⟩
    | 5, hk => cases hk; exact ⟨y5, by decide⟩
    | 6, hk => cases hk; exact ⟨y6, by decide⟩
    | k + 7, hk => simp [en_xs] at hk
  · exact List.forall_mem_cons.mpr ⟨z0, List.forall_mem_cons.mpr ⟨z1, List.forall_mem_cons.mpr ⟨z2, List.forall_mem_cons.mpr ⟨z3, List.forall_mem_cons.mpr ⟨z4, List.forall_mem_cons.mpr ⟨z5, List.forall_mem_cons.mpr ⟨z6, (fun _ h => absurd h List.not_mem_nil)⟩⟩⟩⟩⟩⟩⟩
  · exact List.forall_mem_cons.mpr ⟨va_Nw.of rfl (hts _ (List.mem_of_getElem? (i := 113) (by decide +kernel))), List.forall_mem_cons.mpr ⟨va_Nw.of rfl (hts _ (List.mem_of_getElem? (i := 210) (by decide +kernel))), List.forall_mem_cons.mpr ⟨va_Nw.of rfl (hts _ (List.mem_of_getElem? (i := 233) (by decide +kernel))), List.forall_mem_cons.mpr ⟨va_Nw.of rfl (hts _ (List.mem_of_getElem? (i := 258) (by decide +kernel))), List.forall_mem_cons.mpr ⟨va_Nw.of rfl (hts _ (List.mem_of_getElem? (i := 288) (by decide +kernel))), List.forall_mem_cons.mpr ⟨va_Nw.of rfl (hts _ (List.mem_of_getElem? (i := 373) (by decide +kernel))), List.forall_mem_cons.mpr ⟨va_Nw.of rfl (hts _ (List.mem_of_getElem? (i := 517) (by decide +kernel))), (fun _ h => absurd h List.not_mem_nil)⟩⟩⟩⟩⟩⟩⟩
  · exact va_AO.of (hts _ (List.mem_of_getElem? (i := 256) (by decide +kernel)))
  · refine ⟨fun i hi => ?_, fun i j hi hj e => ?_⟩
    · match i, hi with
      | 0, _ => exact hS.1 0 (by decide)
      | 1, _ => exact hS.1 1 (by decide)
    · match i, hi, j, hj, e with
      | 0, _, 0, _, _ => rfl
      | 1, _, 1, _, _ => rfl
      | 0, _, 1, _, e => exact hS.2 0 1 (by decide) (by decide) e
      | 1, _, 0, _, e => exact hS.2 1 0 (by decide) (by decide) e
  · exact vk_R.of (hts _ (List.mem_of_getElem? (i := 600) (by decide +kernel))) (hE 0 (by decide))
  · exact vk_R.of (hts _ (List.mem_of_getElem? (i := 691) (by decide +kernel))) (hE 1 (by decide))
  · exact va_Zof (hts _ (List.mem_of_getElem? (i := 614) (by decide +kernel))) (hts _ (List.mem_of_getElem? (i := 97) (by decide +kernel))) (va_eqt (hs _ st_cs)) hA
