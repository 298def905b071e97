/-! THE SURROUNDINGS: what stays as it is: static rows, nest mates' entries, texts; the tables' good words -/
def en_xs : List (List Int) := [[0, 4, 8, 36, 64, 71, 78, 79, 80], [99, 9, 9, 20, 50, 3, 50, 999, 12], [50, 1, 1, 0, 5, 0, 50, 20, 6], [4, 4, 28, 28, 7, 7, 1, 1, 1], [0, 1, 2, 2, 2, 3, 3, 4, 4, 4], [-1, 0, 0, 2, 1, 3, 0, 6], [1, 10, 11, 2, 20, 0, 0, 0, 0, 30, 0, 0, 0, 41, 40, 0, 0, 0, 0, 50, 0, 0, 60, 61, 70, 0, 0, 0, 81, 80, 0, 0]]
def en_Z : List (String × String × String × Nat) := [("LeftAsFound$House", "FIRST", "[I", 0), ("LeftAsFound$House", "TOP", "[I", 1), ("LeftAsFound$House", "AT_FIRST", "[I", 2), ("LeftAsFound$House", "HOW_MANY", "[I", 3), ("LeftAsFound$Law", "LEVEL_OF", "[I", 4), ("LeftAsFound$Bodies", "ABOVE", "[I", 5), ("LeftAsFound$Bodies", "OWN", "[I", 6)]
def en_NW : List (String × Nat × MethodName × String) := [(RX10, 11, yX3_init, RX10), (RX10, 39, yX4_init, RX10), (RX10, 49, yX1_init, RX10), (RX10, 60, yX8_init, RX10), (RX10, 63, yX0_init, RX10), (RX10, 79, yX5_init, RX10), (RX2, 31, yX10_isThing, RX10)]
def en_byt : List (List Int32) := [[102, 111, 116, 98, 115, 107], [124, 38, 60, 61, 62, 43, 45, 42, 47, 37]]
def en_N (xt : Nat → Nat) (A : Nat → Prop) (U : State) : Prop := rf_EX en_xs xt A U ∧ (∀ z ∈ en_Z, va_Z z.1 z.2.1 z.2.2.1 (.ref (xt z.2.2.2)) A U U.heap) ∧ (∀ w ∈ en_NW, va_Nw (.methodLinkNest w.1 w.2.1 w.2.2.1 w.2.2.2) U) ∧ va_AO "LeftAsFound$Shelf" U ∧
  vk_S 2 [6, 10] en_byt (fun i => xt (7 + i)) (fun i => xt (9 + i)) A U U.heap ∧ vk_R "LeftAsFound$Law" 87 "fotbsk" (xt 7) U ∧ vk_R "LeftAsFound$Law" 68 "|&<=>+-*/%" (xt 8) U ∧ va_Z "java/lang/String" "COMPACT_STRINGS" "Z" (.int 1) A U U.heap
theorem en_Nok (xt : Nat → Nat) : rf_Nok (en_N xt) := by
  refine ⟨fun A B s U H locs hN hS hU hW hAB => ?_, fun A U g mk a hN => ?_⟩
  · obtain ⟨h1, h2, h3, h4, h5, h6, h7, h8⟩ := hN
    have hq : ∀ a : Nat, a < s.heap.size → ¬ A a → H[a]? = s.heap[a]? := hS.2.1
    subst hU
    refine ⟨fun k cs hk => ⟨(va_T.moved hW.alike ((h1 k cs hk).1.kept hq)).narrow hAB, (h1 k cs hk).2⟩, fun z hz => (va_Z.moved hW.alike ((h2 z hz).kept hq)).narrow hAB, fun w hw => va_Nw.warmM hW (h3 w hw), va_AO.moved hW.alike h4, (vk_S.moved hW.alike (h5.kept hq)).narrow hAB, vk_R.warm hW h6, vk_R.warm hW h7, (va_Z.moved hW.alike (h8.kept hq)).narrow hAB⟩
  · obtain ⟨h1, h2, h3, h4, h5, h6, h7, h8⟩ := hN
    exact ⟨fun k cs hk => ⟨va_T.moved (U := U.calling g mk a) (Vm.Alike.refl U.vm) (h1 k cs hk).1, (h1 k cs hk).2⟩, fun z hz => va_Z.moved (U := U.calling g mk a) (Vm.Alike.refl U.vm) (h2 z hz), fun w hw => va_Nw.same rfl rfl (h3 w hw), va_AO.moved (U := U.calling g mk a) (Vm.Alike.refl U.vm) h4, vk_S.moved (U := U.calling g mk a) (Vm.Alike.refl U.vm) h5, vk_R.same rfl h6, vk_R.same rfl h7, va_Z.moved (U := U.calling g mk a) (Vm.Alike.refl U.vm) h8⟩
def en_G : List Cond := lw_tbl.filter goodWord
theorem en_in {w : Cond} (h : w ∈ lw_tbl) (hg : goodWord w = true) : w ∈ en_G := List.mem_filter.mpr ⟨h, hg⟩
theorem en_good {c0 : Cond} {ws : List Cond} (h : ∀ w ∈ ws, w ∈ en_G) : GoodIn (c0 :: en_G) ws := fun w hw => ⟨List.mem_cons_of_mem _ (h w hw), good_of_word (List.mem_filter.mp (h w hw)).2⟩
/-- a method's name that calls may have, and how many arguments it takes -/
def en_y (y : MethodName) (n : Nat) : Prop := y.cls ≠ "java/lang/invoke/MethodHandle" ∧ y.cls ≠ "java/lang/invoke/VarHandle" ∧ (parseMethodDescriptor y.desc).map (fun d => d.parameters.length) = some n
section
variable {p : Program} {l : Launch} {e : Env} {R : Room} {s : State} {m : MethodId} {args : Array Value} {below : List Frame} {meth : Method} {c : Code} {cc : ByteArray} {nL idx : Nat} {c0 : Cond} {own : String} {sp : rf_SP}
theorem en_CV {n : Nat} (hx : p.tables.exec = Jvm.exec) (hb : c.code = cc) (hml : c.maxLocals = nL) (hown : s.vm.findClass own = some m.cls) (hts : ∀ w ∈ c0 :: en_G, w.before args s = true) (w1 : .methodLink own idx sp.1.1 ∈ en_G) (w2 : .instanceMethod sp.1.1 ∈ en_G) (w3 : .selects sp.1.1.cls sp.1.1 sp.1.1 ∈ en_G) (w4 : .initialized sp.1.1.cls ∈ en_G) (w5 : rf_cw sp ∈ en_G) (hy : en_y sp.1.1 n) (hn : n + 1 = sp.2.2.1.2.1.length) (hR : sp.2.1.1 + 1 ≤ R.frames ∧ 8 + (sp.1.2.2.1 + 11) + sp.2.1.2.1 ≤ R.locals) : rf_CV p l e R s m args below meth c cc nL en_G idx sp := by
  intro Pc Qc free H locs cells slots ls pc b As rest hM hp hlen hsize hcat hd hroom
  refine va_runV (As := As) (rest := rest) (Ts := c0 :: en_G) (own := own) ⟨hx, hb, hml, hown, hts⟩ hM (cwV n hts (en_good (fun w hw => ?_)) rfl rfl rfl ⟨rfl, hy⟩ hR) hp rfl (by omega) hsize rfl (lv_room hcat) hd hroom
  unfold wsV at hw
  rcases List.mem_append.mp hw with hw | hw
  · simp only [List.mem_cons, List.not_mem_nil, or_false] at hw
    rcases hw with rfl | rfl | rfl | rfl
    · exact w1
    · exact w2
    · exact w3
    · exact w4
  · rcases List.mem_cons.mp hw with rfl | hw
    · exact w5
    · exact hw
theorem en_CS {n : Nat} (hx : p.tables.exec = Jvm.exec) (hb : c.code = cc) (hml : c.maxLocals = nL) (hown : s.vm.findClass own = some m.cls) (hts : ∀ w ∈ c0 :: en_G, w.before args s = true) (w1 : .methodLink own idx sp.1.1 ∈ en_G) (w2 : .static sp.1.1 ∈ en_G) (w4 : .initialized sp.1.1.cls ∈ en_G) (w5 : rf_cw sp ∈ en_G) (hy : en_y sp.1.1 n) (hn : n = sp.2.2.1.2.1.length) (hR : sp.2.1.1 + 1 ≤ R.frames ∧ 8 + (sp.1.2.2.1 + 11) + sp.2.1.2.1 ≤ R.locals) : rf_CS p l e R s m args below meth c cc nL en_G idx sp := by
  intro Pc Qc free H locs cells slots ls pc As rest hM hp hlen hsize hcat hd hroom
  refine va_runS (As := As) (rest := rest) (Ts := c0 :: en_G) (own := own) ⟨hx, hb, hml, hown, hts⟩ hM (va_cwS n hts (en_good (fun w hw => ?_)) rfl rfl rfl hy hR) hp rfl (by omega) hsize rfl (lv_room hcat) hd hroom
  unfold va_wsS at hw
  rcases List.mem_append.mp hw with hw | hw
  · simp only [List.mem_cons, List.not_mem_nil, or_false] at hw
    rcases hw with rfl | rfl | rfl
    · exact w1
    · exact w2
    · exact w4
  · rcases List.mem_cons.mp hw with rfl | hw
    · exact w5
    · exact hw
theorem en_CI {n : Nat} (hx : p.tables.exec = Jvm.exec) (hb : c.code = cc) (hml : c.maxLocals = nL) (hown : s.vm.findClass own = some m.cls) (hts : ∀ w ∈ c0 :: en_G, w.before args s = true) (w1 : .methodLink own idx sp.1.1 ∈ en_G) (w2 : .instanceMethod sp.1.1 ∈ en_G) (w4 : .initialized sp.1.1.cls ∈ en_G) (w5 : rf_cw sp ∈ en_G) (hi : sp.1.1.name = "<init>") (hret : sp.1.2.2.2 = none) (hy : en_y sp.1.1 n) (hn : n + 1 = sp.2.2.1.2.1.length) (hR : sp.2.1.1 + 1 ≤ R.frames ∧ 8 + (sp.1.2.2.1 + 11) + sp.2.1.2.1 ≤ R.locals) : rf_CI p l e R s m args below meth c cc nL en_G idx sp := by
  intro Pc Qc free H locs cells slots ls pc b As rest hM hp hlen hsize hcat hd hroom
  have hmem : ∀ w ∈ rf_cw sp :: en_G, w ∈ en_G := fun w hw => by
    rcases List.mem_cons.mp hw with rfl | hw
    · exact w5
    · exact hw
  have ok : ∀ w, w ∈ en_G → w.before args s = true := fun w h => hts w (List.mem_cons_of_mem _ h)
  exact va_runI (As := As) (rest := rest) (Ts := c0 :: en_G) (own := own) ⟨hx, hb, hml, hown, hts⟩ hM (cwI n hts (en_good hmem) (by rw [← hret]; rfl) rfl rfl (ok _ w4) (ok _ w1) (ok _ w2) hi hy hR) hp rfl (by omega) hsize rfl (lv_room hcat) hd hroom
theorem en_CSn {n : Nat} {host : String} (hx : p.tables.exec = Jvm.exec) (hb : c.code = cc) (hml : c.maxLocals = nL) (hown : s.vm.findClass own = some m.cls) (hts : ∀ w ∈ c0 :: en_G, w.before args s = true) (w1 : va_Nw (.methodLinkNest own idx sp.1.1 host) s) (w2 : .static sp.1.1 ∈ en_G) (w4 : .initialized sp.1.1.cls ∈ en_G) (w5 : rf_cw sp ∈ en_G) (hy : en_y sp.1.1 n) (hn : n = sp.2.2.1.2.1.length) (hR : sp.2.1.1 + 1 ≤ R.frames ∧ 8 + (sp.1.2.2.1 + 11) + sp.2.1.2.1 ≤ R.locals) : rf_CS p l e R s m args below meth c cc nL en_G idx sp := by
  intro Pc Qc free H locs cells slots ls pc As rest hM hp hlen hsize hcat hd hroom
  have hmem : ∀ w ∈ rf_cw sp :: en_G, w ∈ en_G := fun w hw => by
    rcases List.mem_cons.mp hw with rfl | hw
    · exact w5
    · exact hw
  have ok : ∀ w, w ∈ en_G → w.before args s = true := fun w h => hts w (List.mem_cons_of_mem _ h)
  exact va_runSN (As := As) (rest := rest) (Ts := c0 :: en_G) (own := own) ⟨hx, hb, hml, hown, hts⟩ hM ⟨va_cnB n hts (en_good hmem) rfl rfl rfl w1 (ok _ w4) hy hR, ok _ w2, trivial⟩ hp rfl (by omega) hsize rfl (lv_room hcat) hd hroom
theorem en_CIn {n : Nat} {host : String} (hx : p.tables.exec = Jvm.exec) (hb : c.code = cc) (hml : c.maxLocals = nL) (hown : s.vm.findClass own = some m.cls) (hts : ∀ w ∈ c0 :: en_G, w.before args s = true) (w1 : va_Nw (.methodLinkNest own idx sp.1.1 host) s) (w2 : .instanceMethod sp.1.1 ∈ en_G) (w4 : .initialized sp.1.1.cls ∈ en_G) (w5 : rf_cw sp ∈ en_G) (hi : sp.1.1.name = "<init>") (hret : sp.1.2.2.2 = none) (hy : en_y sp.1.1 n) (hn : n + 1 = sp.2.2.1.2.1.length) (hR : sp.2.1.1 + 1 ≤ R.frames ∧ 8 + (sp.1.2.2.1 + 11) + sp.2.1.2.1 ≤ R.locals) : rf_CI p l e R s m args below meth c cc nL en_G idx sp := by
  intro Pc Qc free H locs cells slots ls pc b As rest hM hp hlen hsize hcat hd hroom
  have hmem : ∀ w ∈ rf_cw sp :: en_G, w ∈ en_G := fun w hw => by
    rcases List.mem_cons.mp hw with rfl | hw
    · exact w5
    · exact hw
  have ok : ∀ w, w ∈ en_G → w.before args s = true := fun w h => hts w (List.mem_cons_of_mem _ h)
  exact va_runIN (As := As) (rest := rest) (Ts := c0 :: en_G) (own := own) ⟨hx, hb, hml, hown, hts⟩ hM ⟨va_cnB n hts (en_good hmem) (by rw [← hret]; rfl) rfl rfl w1 (ok _ w4) hy hR, hi, ok _ w2⟩ hp rfl (by omega) hsize rfl (lv_room hcat) hd hroom
end
