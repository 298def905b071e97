/-! calls: a contract's words, told once -/
def en_SQ (sp : rf_SP) (y : MethodName) (n fr lo : Nat) : Prop := sp.1.1 = y ∧ sp.2.2.1.2.1.length = n ∧ sp.2.1.1 = fr ∧ 8 + (sp.1.2.2.1 + 11) + sp.2.1.2.1 = lo ∧ rf_cw sp ∈ en_G
section
variable {p : Program} {l : Launch} {e : Env} {R : Room} {s : State} {m : MethodId} {args : Array Value} {below : List Frame} {meth : Method} {c : Code} {cc : ByteArray} {nL idx ci n fr lo F Lc : Nat} {c0 : Cond} {own : String} {sp : rf_SP} {y : MethodName} {D : va_G} {tys : List (ClassId × FieldType)} {xt : Nat → Nat}
theorem en_le {fr lo F Lc : Nat} {R : Room} (hF : R.frames = F ∧ R.locals = Lc) (hR : (Nat.ble (fr + 1) F && Nat.ble lo Lc) = true) : fr + 1 ≤ R.frames ∧ lo ≤ R.locals := by
  simp only [Bool.and_eq_true] at hR
  exact ⟨by rw [hF.1]; exact Nat.le_of_ble_eq_true hR.1, by rw [hF.2]; exact Nat.le_of_ble_eq_true hR.2⟩
theorem en_V {T : u_T} {N : Nat} (ok : rf_OK l D nm_cl tys xt (en_N xt) en_G sp) (h : en_SQ sp y (n + 1) fr lo) (hx : p.tables.exec = Jvm.exec) (hb : c.code = cc) (hml : c.maxLocals = nL) (hown : s.vm.findClass own = some m.cls) (hts : ∀ w ∈ c0 :: en_G, w.before args s = true) (w1 : .methodLink own idx y ∈ en_G) (w2 : .instanceMethod y ∈ en_G) (w3 : .selects y.cls y y ∈ en_G) (w4 : .initialized y.cls ∈ en_G) (hy : en_y y n) (hF : R.frames = F ∧ R.locals = Lc) (hR : (Nat.ble (fr + 1) F && Nat.ble lo Lc) = true) (hc : nm_cl[ci]? = some (y.cls, T, N)) :
    rf_OK l D nm_cl tys xt (en_N xt) en_G sp ∧ rf_CV p l e R s m args below meth c cc nL en_G idx sp ∧ ∃ T N, nm_cl[ci]? = some (sp.1.1.cls, T, N) := by
  obtain ⟨rfl, hn, rfl, rfl, w5⟩ := h
  exact ⟨ok, en_CV hx hb hml hown hts w1 w2 w3 w4 w5 hy hn.symm (en_le hF hR), _, _, hc⟩
theorem en_K {k0 : Nat} {d0 : Int} {as0 : List rf_AV} (ok : rf_OK l D nm_cl tys xt (en_N xt) en_G sp) (h : en_SQ sp y (n + 1) fr lo) (hx : p.tables.exec = Jvm.exec) (hb : c.code = cc) (hml : c.maxLocals = nL) (hown : s.vm.findClass own = some m.cls) (hts : ∀ w ∈ c0 :: en_G, w.before args s = true) (w1 : .methodLink own idx y ∈ en_G) (w2 : .instanceMethod y ∈ en_G) (w3 : .selects y.cls y y ∈ en_G) (w4 : .initialized y.cls ∈ en_G) (hy : en_y y n) (hF : R.frames = F ∧ R.locals = Lc) (hR : (Nat.ble (fr + 1) F && Nat.ble lo Lc) = true) (hk : sp.2.2.1.2.1 = (4, k0, d0) :: as0)
    (hr : ∀ (A : Nat → Prop), en_N xt A s → ∀ (H : Heap) (locs : List Loc), va_S A s.heap H locs → ∃ cell : Cell, H[xt k0]? = some cell ∧ cell.vm.isStatics = false ∧ s.vm.findClass y.cls = some cell.cls) :
    rf_OK l D nm_cl tys xt (en_N xt) en_G sp ∧ rf_CV p l e R s m args below meth c cc nL en_G idx sp ∧ ∃ k0 d0 as0, sp.2.2.1.2.1 = (4, k0, d0) :: as0 ∧ ∀ (A : Nat → Prop), en_N xt A s → ∀ (H : Heap) (locs : List Loc), va_S A s.heap H locs → ∃ cell : Cell, H[xt k0]? = some cell ∧ cell.vm.isStatics = false ∧ s.vm.findClass sp.1.1.cls = some cell.cls := by
  obtain ⟨rfl, hn, rfl, rfl, w5⟩ := h
  exact ⟨ok, en_CV hx hb hml hown hts w1 w2 w3 w4 w5 hy hn.symm (en_le hF hR), _, _, _, hk, hr⟩
theorem en_S (ok : rf_OK l D nm_cl tys xt (en_N xt) en_G sp) (h : en_SQ sp y n fr lo) (hx : p.tables.exec = Jvm.exec) (hb : c.code = cc) (hml : c.maxLocals = nL) (hown : s.vm.findClass own = some m.cls) (hts : ∀ w ∈ c0 :: en_G, w.before args s = true) (w1 : .methodLink own idx y ∈ en_G) (w2 : .static y ∈ en_G) (w4 : .initialized y.cls ∈ en_G) (hy : en_y y n) (hF : R.frames = F ∧ R.locals = Lc) (hR : (Nat.ble (fr + 1) F && Nat.ble lo Lc) = true) :
    rf_OK l D nm_cl tys xt (en_N xt) en_G sp ∧ rf_CS p l e R s m args below meth c cc nL en_G idx sp := by
  obtain ⟨rfl, hn, rfl, rfl, w5⟩ := h
  exact ⟨ok, en_CS hx hb hml hown hts w1 w2 w4 w5 hy hn.symm (en_le hF hR)⟩
theorem en_Sn {host : String} (ok : rf_OK l D nm_cl tys xt (en_N xt) en_G sp) (h : en_SQ sp y n fr lo) (hx : p.tables.exec = Jvm.exec) (hb : c.code = cc) (hml : c.maxLocals = nL) (hown : s.vm.findClass own = some m.cls) (hts : ∀ w ∈ c0 :: en_G, w.before args s = true) (w1 : va_Nw (.methodLinkNest own idx y host) s) (w2 : .static y ∈ en_G) (w4 : .initialized y.cls ∈ en_G) (hy : en_y y n) (hF : R.frames = F ∧ R.locals = Lc) (hR : (Nat.ble (fr + 1) F && Nat.ble lo Lc) = true) :
    rf_OK l D nm_cl tys xt (en_N xt) en_G sp ∧ rf_CS p l e R s m args below meth c cc nL en_G idx sp := by
  obtain ⟨rfl, hn, rfl, rfl, w5⟩ := h
  exact ⟨ok, en_CSn hx hb hml hown hts w1 w2 w4 w5 hy hn.symm (en_le hF hR)⟩
theorem en_I (ok : rf_OK l D nm_cl tys xt (en_N xt) en_G sp) (h : en_SQ sp y (n + 1) fr lo) (hret : sp.1.2.2.2 = none) (hx : p.tables.exec = Jvm.exec) (hb : c.code = cc) (hml : c.maxLocals = nL) (hown : s.vm.findClass own = some m.cls) (hts : ∀ w ∈ c0 :: en_G, w.before args s = true) (w1 : .methodLink own idx y ∈ en_G) (w2 : .instanceMethod y ∈ en_G) (w4 : .initialized y.cls ∈ en_G) (hi : y.name = "<init>") (hy : en_y y n) (hF : R.frames = F ∧ R.locals = Lc) (hR : (Nat.ble (fr + 1) F && Nat.ble lo Lc) = true) :
    rf_OK l D nm_cl tys xt (en_N xt) en_G sp ∧ rf_CI p l e R s m args below meth c cc nL en_G idx sp := by
  obtain ⟨rfl, hn, rfl, rfl, w5⟩ := h
  exact ⟨ok, en_CI hx hb hml hown hts w1 w2 w4 w5 hi hret hy hn.symm (en_le hF hR)⟩
theorem en_In {host : String} (ok : rf_OK l D nm_cl tys xt (en_N xt) en_G sp) (h : en_SQ sp y (n + 1) fr lo) (hret : sp.1.2.2.2 = none) (hx : p.tables.exec = Jvm.exec) (hb : c.code = cc) (hml : c.maxLocals = nL) (hown : s.vm.findClass own = some m.cls) (hts : ∀ w ∈ c0 :: en_G, w.before args s = true) (w1 : va_Nw (.methodLinkNest own idx y host) s) (w2 : .instanceMethod y ∈ en_G) (w4 : .initialized y.cls ∈ en_G) (hi : y.name = "<init>") (hy : en_y y n) (hF : R.frames = F ∧ R.locals = Lc) (hR : (Nat.ble (fr + 1) F && Nat.ble lo Lc) = true) :
    rf_OK l D nm_cl tys xt (en_N xt) en_G sp ∧ rf_CI p l e R s m args below meth c cc nL en_G idx sp := by
  obtain ⟨rfl, hn, rfl, rfl, w5⟩ := h
  exact ⟨ok, en_CIn hx hb hml hown hts w1 w2 w4 w5 hi hret hy hn.symm (en_le hF hR)⟩
end
