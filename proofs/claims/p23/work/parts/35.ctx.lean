/-! what each class file's walks rest on -/
section
variable {p : Program} {l : Launch} {e : Env} {R : Room} {s : State} {m : MethodId} {args : Array Value} {below : List Frame} {meth : Method} {c : Code} {cc : ByteArray} {xt : Nat → Nat} {A : Nat → Prop} {H0 : Heap} {own : String} {idx nL ci : Nat} {D : va_G} {cl : List vw_C} {tys : List (ClassId × FieldType)} {N : (Nat → Prop) → State → Prop} {G : List Cond} {sps : List rf_SP}
theorem cx_li {k : Int32} {z : Int} (hx : p.tables.exec = Jvm.exec) (hb : c.code = cc) (hown : s.vm.findClass own = some m.cls) (hw : (Cond.constant own idx k).before args s = true) (hz : k.toInt = z) : rf_LD p l e R s m args below meth c cc xt A H0 (0, idx, (0, 0, z)) :=
  ⟨.int k, fun ρ ad => ⟨k, rfl, 0, rfl, by rw [hz]; exact (Int.zero_add z).symm⟩, fun Q pc H locs cells slots ls rest => ⟨fun _ hd kk => lv_ldc hx hb hown hw hd kk, fun h => absurd (show (0 : Nat) = 1 from h) (by decide), fun h => absurd (show (0 : Nat) = 2 from h) (by decide), fun k9 h => absurd (show (0 : Nat) = 10 + 2 * k9 from h) (by omega), fun k9 h => absurd (show (0 : Nat) = 11 + 2 * k9 from h) (by omega), fun k9 h => absurd (show (0 : Nat) = 11 + 2 * k9 from h) (by omega), fun k9 i9 _ h => absurd (show (0 : Nat) = 3 from h) (by decide)⟩⟩
theorem cx_lw {k : Int32} {z : Int} (hx : p.tables.exec = Jvm.exec) (hb : c.code = cc) (hown : s.vm.findClass own = some m.cls) (hw : (Cond.constant own idx k).before args s = true) (hz : k.toInt = z) : rf_LD p l e R s m args below meth c cc xt A H0 (1, idx, (0, 0, z)) :=
  ⟨.int k, fun ρ ad => ⟨k, rfl, 0, rfl, by rw [hz]; exact (Int.zero_add z).symm⟩, fun Q pc H locs cells slots ls rest => ⟨fun h => absurd (show (1 : Nat) = 0 from h) (by decide), fun _ hd kk => lv_ldcw hx hb hown hw hd kk, fun h => absurd (show (1 : Nat) = 2 from h) (by decide), fun k9 h => absurd (show (1 : Nat) = 10 + 2 * k9 from h) (by omega), fun k9 h => absurd (show (1 : Nat) = 11 + 2 * k9 from h) (by omega), fun k9 h => absurd (show (1 : Nat) = 11 + 2 * k9 from h) (by omega), fun k9 i9 _ h => absurd (show (1 : Nat) = 3 from h) (by decide)⟩⟩
theorem cx_l2 {k : Int64} {z : Int} (hx : p.tables.exec = Jvm.exec) (hb : c.code = cc) (hown : s.vm.findClass own = some m.cls) (hw : (Cond.constantLong own idx k).before args s = true) (hz : k.toInt = z) : rf_LD p l e R s m args below meth c cc xt A H0 (2, idx, (1, 0, z)) :=
  ⟨.long k, fun ρ ad => ⟨k, rfl, 0, rfl, by rw [hz]; exact (Int.zero_add z).symm⟩, fun Q pc H locs cells slots ls rest => ⟨fun h => absurd (show (2 : Nat) = 0 from h) (by decide), fun h => absurd (show (2 : Nat) = 1 from h) (by decide), fun _ hd kk => lv_ldc2 hx hb hown hw hd kk, fun k9 h => absurd (show (2 : Nat) = 10 + 2 * k9 from h) (by omega), fun k9 h => absurd (show (2 : Nat) = 11 + 2 * k9 from h) (by omega), fun k9 h => absurd (show (2 : Nat) = 11 + 2 * k9 from h) (by omega), fun k9 i9 _ h => absurd (show (2 : Nat) = 3 from h) (by decide)⟩⟩
theorem cx_ls {tx : String} {k : Nat} (hx : p.tables.exec = Jvm.exec) (hb : c.code = cc) (hown : s.vm.findClass own = some m.cls) (hw : vk_R own idx tx (xt k) s) : rf_LD p l e R s m args below meth c cc xt A H0 (0, idx, (4, k, 0)) :=
  ⟨.ref (xt k), fun ρ ad => rfl, fun Q pc H locs cells slots ls rest => ⟨fun _ hd kk => va_ldcS hx hb hown hw hd kk, fun h => absurd (show (0 : Nat) = 1 from h) (by decide), fun h => absurd (show (0 : Nat) = 2 from h) (by decide), fun k9 h => absurd (show (0 : Nat) = 10 + 2 * k9 from h) (by omega), fun k9 h => absurd (show (0 : Nat) = 11 + 2 * k9 from h) (by omega), fun k9 h => absurd (show (0 : Nat) = 11 + 2 * k9 from h) (by omega), fun k9 i9 _ h => absurd (show (0 : Nat) = 3 from h) (by decide)⟩⟩
theorem cx_m0 (h : ∀ sp ∈ sps, rf_OK l D cl tys xt N G sp ∧ rf_CV p l e R s m args below meth c cc nL G idx sp ∧ ∃ T N, cl[ci]? = some (sp.1.1.cls, T, N)) : rf_MLok p l e R s m args below meth c cc nL own D cl tys xt N G (idx, 0, ci, sps) := ⟨fun _ => h, fun h => absurd (show (0 : Nat) = 1 from h) (by decide), fun h => absurd (show (0 : Nat) = 2 from h) (by decide), fun h => absurd (show (0 : Nat) = 3 from h) (by decide), fun h => absurd (show (0 : Nat) = 4 from h) (by decide), fun h => absurd (show (0 : Nat) = 5 from h) (by decide), fun h => absurd (show (0 : Nat) = 6 from h) (by decide), fun h => absurd (show (0 : Nat) = 7 from h) (by decide)⟩
theorem cx_m1 (h : ∀ sp ∈ sps, rf_OK l D cl tys xt N G sp ∧ rf_CS p l e R s m args below meth c cc nL G idx sp) : rf_MLok p l e R s m args below meth c cc nL own D cl tys xt N G (idx, 1, ci, sps) := ⟨fun h => absurd (show (1 : Nat) = 0 from h) (by decide), fun _ => h, fun h => absurd (show (1 : Nat) = 2 from h) (by decide), fun h => absurd (show (1 : Nat) = 3 from h) (by decide), fun h => absurd (show (1 : Nat) = 4 from h) (by decide), fun h => absurd (show (1 : Nat) = 5 from h) (by decide), fun h => absurd (show (1 : Nat) = 6 from h) (by decide), fun h => absurd (show (1 : Nat) = 7 from h) (by decide)⟩
theorem cx_m2 (h : ∀ sp ∈ sps, rf_OK l D cl tys xt N G sp ∧ rf_CI p l e R s m args below meth c cc nL G idx sp) : rf_MLok p l e R s m args below meth c cc nL own D cl tys xt N G (idx, 2, ci, sps) := ⟨fun h => absurd (show (2 : Nat) = 0 from h) (by decide), fun h => absurd (show (2 : Nat) = 1 from h) (by decide), fun _ => h, fun h => absurd (show (2 : Nat) = 3 from h) (by decide), fun h => absurd (show (2 : Nat) = 4 from h) (by decide), fun h => absurd (show (2 : Nat) = 5 from h) (by decide), fun h => absurd (show (2 : Nat) = 6 from h) (by decide), fun h => absurd (show (2 : Nat) = 7 from h) (by decide)⟩
theorem cx_m7 (h : ∀ sp ∈ sps, rf_OK l D cl tys xt N G sp ∧ rf_CV p l e R s m args below meth c cc nL G idx sp ∧ ∃ k0 d0 as0, sp.2.2.1.2.1 = (4, k0, d0) :: as0 ∧ ∀ (A : Nat → Prop), N A s → ∀ (H : Heap) (locs : List Loc), va_S A s.heap H locs → ∃ cell : Cell, H[xt k0]? = some cell ∧ cell.vm.isStatics = false ∧ s.vm.findClass sp.1.1.cls = some cell.cls) : rf_MLok p l e R s m args below meth c cc nL own D cl tys xt N G (idx, 7, ci, sps) := ⟨fun h => absurd (show (7 : Nat) = 0 from h) (by decide), fun h => absurd (show (7 : Nat) = 1 from h) (by decide), fun h => absurd (show (7 : Nat) = 2 from h) (by decide), fun h => absurd (show (7 : Nat) = 3 from h) (by decide), fun h => absurd (show (7 : Nat) = 4 from h) (by decide), fun h => absurd (show (7 : Nat) = 5 from h) (by decide), fun h => absurd (show (7 : Nat) = 6 from h) (by decide), fun _ => h⟩
theorem cx_m3 (hw : ∀ w ∈ en_G, w.before args s = true) (w1 : .methodLink own idx Lib.objectInit ∈ en_G) (w2 : .instanceMethod Lib.objectInit ∈ en_G) (w3 : .code Lib.objectInit ⟨#[0xb1]⟩ 1 none ∈ en_G) : rf_MLok p l e R s m args below meth c cc nL own D cl tys xt N G (idx, 3, ci, sps) := ⟨fun h => absurd (show (3 : Nat) = 0 from h) (by decide), fun h => absurd (show (3 : Nat) = 1 from h) (by decide), fun h => absurd (show (3 : Nat) = 2 from h) (by decide), fun _ => ⟨hw _ w1, hw _ w2, hw _ w3⟩, fun h => absurd (show (3 : Nat) = 4 from h) (by decide), fun h => absurd (show (3 : Nat) = 5 from h) (by decide), fun h => absurd (show (3 : Nat) = 6 from h) (by decide), fun h => absurd (show (3 : Nat) = 7 from h) (by decide)⟩
theorem cx_m4 (hw : ∀ w ∈ en_G, w.before args s = true) (w1 : .methodLink own idx Lib.Math.max.name ∈ en_G) (w2 : .static Lib.Math.max.name ∈ en_G) (w3 : .initialized "java/lang/Math" ∈ en_G) (w4 : .code Lib.Math.max.name Lib.Math.max.code 2 (some .int) ∈ en_G) : rf_MLok p l e R s m args below meth c cc nL own D cl tys xt N G (idx, 4, ci, sps) := ⟨fun h => absurd (show (4 : Nat) = 0 from h) (by decide), fun h => absurd (show (4 : Nat) = 1 from h) (by decide), fun h => absurd (show (4 : Nat) = 2 from h) (by decide), fun h => absurd (show (4 : Nat) = 3 from h) (by decide), fun _ => ⟨hw _ w1, hw _ w2, hw _ w3, hw _ w4⟩, fun h => absurd (show (4 : Nat) = 5 from h) (by decide), fun h => absurd (show (4 : Nat) = 6 from h) (by decide), fun h => absurd (show (4 : Nat) = 7 from h) (by decide)⟩
theorem cx_m5 (hw : ∀ w ∈ en_G, w.before args s = true) (w1 : .methodLink own idx Lib.Math.min.name ∈ en_G) (w2 : .static Lib.Math.min.name ∈ en_G) (w3 : .initialized "java/lang/Math" ∈ en_G) (w4 : .code Lib.Math.min.name Lib.Math.min.code 2 (some .int) ∈ en_G) : rf_MLok p l e R s m args below meth c cc nL own D cl tys xt N G (idx, 5, ci, sps) := ⟨fun h => absurd (show (5 : Nat) = 0 from h) (by decide), fun h => absurd (show (5 : Nat) = 1 from h) (by decide), fun h => absurd (show (5 : Nat) = 2 from h) (by decide), fun h => absurd (show (5 : Nat) = 3 from h) (by decide), fun h => absurd (show (5 : Nat) = 4 from h) (by decide), fun _ => ⟨hw _ w1, hw _ w2, hw _ w3, hw _ w4⟩, fun h => absurd (show (5 : Nat) = 6 from h) (by decide), fun h => absurd (show (5 : Nat) = 7 from h) (by decide)⟩
theorem cx_m6 (hw : ∀ w ∈ en_G, w.before args s = true) (w1 : .methodLink own idx arraycopyName ∈ en_G) (w2 : .native arraycopyName ∈ en_G) (w3 : .static arraycopyName ∈ en_G) (w4 : .initialized "java/lang/System" ∈ en_G) : rf_MLok p l e R s m args below meth c cc nL own D cl tys xt N G (idx, 6, ci, sps) := ⟨fun h => absurd (show (6 : Nat) = 0 from h) (by decide), fun h => absurd (show (6 : Nat) = 1 from h) (by decide), fun h => absurd (show (6 : Nat) = 2 from h) (by decide), fun h => absurd (show (6 : Nat) = 3 from h) (by decide), fun h => absurd (show (6 : Nat) = 4 from h) (by decide), fun h => absurd (show (6 : Nat) = 5 from h) (by decide), fun _ => ⟨hw _ w1, hw _ w2, hw _ w3, hw _ w4⟩, fun h => absurd (show (6 : Nat) = 7 from h) (by decide)⟩
end
def cf_X0 : List (Nat × Nat × Nat) := [(9, 0, 0), (13, 0, 2), (16, 0, 1), (27, 0, 3), (36, 0, 4), (39, 0, 5)]
def cn_X0 : List (Nat × Nat) := []
def cs_X0 : List (Nat × rf_AV) := [(24, (4, 5, Int.ofNat 0)), (46, (4, 6, Int.ofNat 0))]
def ck_X0 : List (Nat × Nat × rf_AV) := []
def ca_X0 : List Nat := []
theorem cx_X0 {p : Program} {l : Launch} {e : Env} {R : Room} {s : State} {m : MethodId} {args : Array Value} {below : List Frame} {meth : Method} {c : Code} {cc : ByteArray} {D : va_G} {tys : List (ClassId × FieldType)} {xt : Nat → Nat} {A : Nat → Prop} {c0 : Cond} {ML : List (Nat × Nat × Nat × List rf_SP)} {ini df : Bool} {nL RF RC RS RL : Nat} (hTY : rf_TY tys "LeftAsFound$Shelf") (hx : p.tables.exec = Jvm.exec) (hb : c.code = cc) (hml : c.maxLocals = nL) (hown : s.vm.findClass RX0 = some m.cls) (hts : ∀ w ∈ c0 :: en_G, w.before args s = true) (hK : va_K D nm_cl tys s) (hN : en_N xt A s) (hA : ∀ q, s.heap.size ≤ q → A q) (hin : ini = true → meth.name = "<init>") (hML : ∀ q ∈ ML, rf_MLok p l e R s m args below meth c cc nL RX0 D nm_cl tys xt (en_N xt) en_G q) (hR : RF ≤ R.frames ∧ RC ≤ R.cells ∧ RS ≤ R.slots ∧ RL ≤ R.locals) :
    rf_CT p l e R s m args below meth c cc RX0 D nm_cl nm_ct tys xt en_xs (en_N xt) en_G en_G "LeftAsFound$Shelf" 8 A s.heap (cf_X0, cn_X0, cs_X0, ck_X0, ML, ca_X0, (0, ini, df), (nL, RF, RC, RS, RL)) := by
  have hw : ∀ w ∈ en_G, w.before args s = true := fun w h => hts w (List.mem_cons_of_mem _ h)
  have h1 : rf_FLok RX0 nm_cl cf_X0 args s := List.forall_mem_cons.mpr ⟨⟨_, _, _, rfl, by decide, rfl, hw _ (wi_X0_0 _ (List.mem_of_getElem? (i := 1) rfl))⟩, List.forall_mem_cons.mpr ⟨⟨_, _, _, rfl, by decide, rfl, hw _ (wi_X0_0 _ (List.mem_of_getElem? (i := 3) rfl))⟩, List.forall_mem_cons.mpr ⟨⟨_, _, _, rfl, by decide, rfl, hw _ (wi_X0_0 _ (List.mem_of_getElem? (i := 2) rfl))⟩, List.forall_mem_cons.mpr ⟨⟨_, _, _, rfl, by decide, rfl, hw _ (wi_X0_0 _ (List.mem_of_getElem? (i := 4) rfl))⟩, List.forall_mem_cons.mpr ⟨⟨_, _, _, rfl, by decide, rfl, hw _ (wi_X0_0 _ (List.mem_of_getElem? (i := 5) rfl))⟩, List.forall_mem_cons.mpr ⟨⟨_, _, _, rfl, by decide, rfl, hw _ (wi_X0_0 _ (List.mem_of_getElem? (i := 6) rfl))⟩, (fun _ h => absurd h List.not_mem_nil)⟩⟩⟩⟩⟩⟩
  have h2 : rf_NLok RX0 nm_cl cn_X0 args s := (fun _ h => absurd h List.not_mem_nil)
  have h3 : rf_SLok RX0 cs_X0 xt A args s := List.forall_mem_cons.mpr ⟨⟨_, _, _, _, hN.2.1 _ (List.mem_of_getElem? (i := 5) rfl), hw _ (wi_X0_0 _ (List.mem_of_getElem? (i := 9) rfl)), fun _ _ => rfl⟩, List.forall_mem_cons.mpr ⟨⟨_, _, _, _, hN.2.1 _ (List.mem_of_getElem? (i := 6) rfl), hw _ (wi_X0_0 _ (List.mem_of_getElem? (i := 8) rfl)), fun _ _ => rfl⟩, (fun _ h => absurd h List.not_mem_nil)⟩⟩
  have h4 : ∀ q ∈ ck_X0, rf_LD p l e R s m args below meth c cc xt A s.heap q := (fun _ h => absurd h List.not_mem_nil)
  have h5 : ∀ i ∈ ca_X0, (Cond.classLink RX0 i "LeftAsFound$Shelf").before args s = true := (fun _ h => absurd h List.not_mem_nil)
  have h6 : ∀ t : ArrayType, rf_akd t ≤ 3 → (Cond.arrayClass (newarray.typeOf t)).before args s = true := by
    intro t ht
    cases t <;> first | exact hw _ (wi_X0_0 _ (List.mem_of_getElem? (i := 28) rfl)) | exact hw _ (wi_X0_0 _ (List.mem_of_getElem? (i := 29) rfl)) | exact hw _ (wi_X0_1 _ (List.mem_of_getElem? (i := 0) rfl)) | exact hw _ (wi_X0_1 _ (List.mem_of_getElem? (i := 1) rfl)) | exact absurd ht (by decide)
  exact ⟨⟨hx, hb, hml, hown, hw, en_CL⟩, ⟨hK, hTY, hA, rfl⟩, ⟨h1, h2, h3, h4, hML, h5⟩, ⟨hN.1, hN.2.2.2.1, h6, en_Nok xt, hN⟩, hR, ⟨fun C hC => by cases hC; rfl, hin, ⟨_, _, rfl⟩, fun h => absurd (show (0 : Nat) = 98 from h) (by decide)⟩⟩
def cf_X1 : List (Nat × Nat × Nat) := [(9, 1, 0), (13, 1, 1), (16, 1, 2), (19, 1, 3), (26, 1, 4), (35, 2, 0)]
def cn_X1 : List (Nat × Nat) := []
def cs_X1 : List (Nat × rf_AV) := []
def ck_X1 : List (Nat × Nat × rf_AV) := []
def ca_X1 : List Nat := []
theorem cx_X1 {p : Program} {l : Launch} {e : Env} {R : Room} {s : State} {m : MethodId} {args : Array Value} {below : List Frame} {meth : Method} {c : Code} {cc : ByteArray} {D : va_G} {tys : List (ClassId × FieldType)} {xt : Nat → Nat} {A : Nat → Prop} {c0 : Cond} {ML : List (Nat × Nat × Nat × List rf_SP)} {ini df : Bool} {nL RF RC RS RL : Nat} (hTY : rf_TY tys "LeftAsFound$Shelf") (hx : p.tables.exec = Jvm.exec) (hb : c.code = cc) (hml : c.maxLocals = nL) (hown : s.vm.findClass RX1 = some m.cls) (hts : ∀ w ∈ c0 :: en_G, w.before args s = true) (hK : va_K D nm_cl tys s) (hN : en_N xt A s) (hA : ∀ q, s.heap.size ≤ q → A q) (hin : ini = true → meth.name = "<init>") (hML : ∀ q ∈ ML, rf_MLok p l e R s m args below meth c cc nL RX1 D nm_cl tys xt (en_N xt) en_G q) (hR : RF ≤ R.frames ∧ RC ≤ R.cells ∧ RS ≤ R.slots ∧ RL ≤ R.locals) :
    rf_CT p l e R s m args below meth c cc RX1 D nm_cl nm_ct tys xt en_xs (en_N xt) en_G en_G "LeftAsFound$Shelf" 8 A s.heap (cf_X1, cn_X1, cs_X1, ck_X1, ML, ca_X1, (1, ini, df), (nL, RF, RC, RS, RL)) := by
  have hw : ∀ w ∈ en_G, w.before args s = true := fun w h => hts w (List.mem_cons_of_mem _ h)
  have h1 : rf_FLok RX1 nm_cl cf_X1 args s := List.forall_mem_cons.mpr ⟨⟨_, _, _, rfl, by decide, rfl, hw _ (wi_X1_0 _ (List.mem_of_getElem? (i := 2) rfl))⟩, List.forall_mem_cons.mpr ⟨⟨_, _, _, rfl, by decide, rfl, hw _ (wi_X1_0 _ (List.mem_of_getElem? (i := 3) rfl))⟩, List.forall_mem_cons.mpr ⟨⟨_, _, _, rfl, by decide, rfl, hw _ (wi_X1_0 _ (List.mem_of_getElem? (i := 4) rfl))⟩, List.forall_mem_cons.mpr ⟨⟨_, _, _, rfl, by decide, rfl, hw _ (wi_X1_0 _ (List.mem_of_getElem? (i := 5) rfl))⟩, List.forall_mem_cons.mpr ⟨⟨_, _, _, rfl, by decide, rfl, hw _ (wi_X1_0 _ (List.mem_of_getElem? (i := 6) rfl))⟩, List.forall_mem_cons.mpr ⟨⟨_, _, _, rfl, by decide, rfl, hw _ (wi_X1_0 _ (List.mem_of_getElem? (i := 0) rfl))⟩, (fun _ h => absurd h List.not_mem_nil)⟩⟩⟩⟩⟩⟩
  have h2 : rf_NLok RX1 nm_cl cn_X1 args s := (fun _ h => absurd h List.not_mem_nil)
  have h3 : rf_SLok RX1 cs_X1 xt A args s := (fun _ h => absurd h List.not_mem_nil)
  have h4 : ∀ q ∈ ck_X1, rf_LD p l e R s m args below meth c cc xt A s.heap q := (fun _ h => absurd h List.not_mem_nil)
  have h5 : ∀ i ∈ ca_X1, (Cond.classLink RX1 i "LeftAsFound$Shelf").before args s = true := (fun _ h => absurd h List.not_mem_nil)
  have h6 : ∀ t : ArrayType, rf_akd t ≤ 3 → (Cond.arrayClass (newarray.typeOf t)).before args s = true := by
    intro t ht
    cases t <;> first | exact hw _ (wi_X1_0 _ (List.mem_of_getElem? (i := 18) rfl)) | exact hw _ (wi_X1_0 _ (List.mem_of_getElem? (i := 19) rfl)) | exact hw _ (wi_X1_0 _ (List.mem_of_getElem? (i := 20) rfl)) | exact hw _ (wi_X1_0 _ (List.mem_of_getElem? (i := 21) rfl)) | exact absurd ht (by decide)
  exact ⟨⟨hx, hb, hml, hown, hw, en_CL⟩, ⟨hK, hTY, hA, rfl⟩, ⟨h1, h2, h3, h4, hML, h5⟩, ⟨hN.1, hN.2.2.2.1, h6, en_Nok xt, hN⟩, hR, ⟨fun C hC => by cases hC; rfl, hin, ⟨_, _, rfl⟩, fun h => absurd (show (1 : Nat) = 98 from h) (by decide)⟩⟩
def cf_X2 : List (Nat × Nat × Nat) := [(9, 2, 1), (15, 2, 0), (42, 2, 2), (64, 3, 2)]
def cn_X2 : List (Nat × Nat) := []
def cs_X2 : List (Nat × rf_AV) := [(19, (4, 3, Int.ofNat 0)), (22, (4, 0, Int.ofNat 0)), (25, (4, 2, Int.ofNat 0)), (28, (4, 1, Int.ofNat 0))]
def ck_X2 : List (Nat × Nat × rf_AV) := []
def ca_X2 : List Nat := []
theorem cx_X2 {p : Program} {l : Launch} {e : Env} {R : Room} {s : State} {m : MethodId} {args : Array Value} {below : List Frame} {meth : Method} {c : Code} {cc : ByteArray} {D : va_G} {tys : List (ClassId × FieldType)} {xt : Nat → Nat} {A : Nat → Prop} {c0 : Cond} {ML : List (Nat × Nat × Nat × List rf_SP)} {ini df : Bool} {nL RF RC RS RL : Nat} (hTY : rf_TY tys "LeftAsFound$Shelf") (hx : p.tables.exec = Jvm.exec) (hb : c.code = cc) (hml : c.maxLocals = nL) (hown : s.vm.findClass RX2 = some m.cls) (hts : ∀ w ∈ c0 :: en_G, w.before args s = true) (hK : va_K D nm_cl tys s) (hN : en_N xt A s) (hA : ∀ q, s.heap.size ≤ q → A q) (hin : ini = true → meth.name = "<init>") (hML : ∀ q ∈ ML, rf_MLok p l e R s m args below meth c cc nL RX2 D nm_cl tys xt (en_N xt) en_G q) (hR : RF ≤ R.frames ∧ RC ≤ R.cells ∧ RS ≤ R.slots ∧ RL ≤ R.locals) :
    rf_CT p l e R s m args below meth c cc RX2 D nm_cl nm_ct tys xt en_xs (en_N xt) en_G en_G "LeftAsFound$Shelf" 8 A s.heap (cf_X2, cn_X2, cs_X2, ck_X2, ML, ca_X2, (2, ini, df), (nL, RF, RC, RS, RL)) := by
  have hw : ∀ w ∈ en_G, w.before args s = true := fun w h => hts w (List.mem_cons_of_mem _ h)
  have h1 : rf_FLok RX2 nm_cl cf_X2 args s := List.forall_mem_cons.mpr ⟨⟨_, _, _, rfl, by decide, rfl, hw _ (wi_X2_0 _ (List.mem_of_getElem? (i := 6) rfl))⟩, List.forall_mem_cons.mpr ⟨⟨_, _, _, rfl, by decide, rfl, hw _ (wi_X2_0 _ (List.mem_of_getElem? (i := 5) rfl))⟩, List.forall_mem_cons.mpr ⟨⟨_, _, _, rfl, by decide, rfl, hw _ (wi_X2_0 _ (List.mem_of_getElem? (i := 7) rfl))⟩, List.forall_mem_cons.mpr ⟨⟨_, _, _, rfl, by decide, rfl, hw _ (wi_X2_0 _ (List.mem_of_getElem? (i := 0) rfl))⟩, (fun _ h => absurd h List.not_mem_nil)⟩⟩⟩⟩
  have h2 : rf_NLok RX2 nm_cl cn_X2 args s := (fun _ h => absurd h List.not_mem_nil)
  have h3 : rf_SLok RX2 cs_X2 xt A args s := List.forall_mem_cons.mpr ⟨⟨_, _, _, _, hN.2.1 _ (List.mem_of_getElem? (i := 3) rfl), hw _ (wi_X2_0 _ (List.mem_of_getElem? (i := 2) rfl)), fun _ _ => rfl⟩, List.forall_mem_cons.mpr ⟨⟨_, _, _, _, hN.2.1 _ (List.mem_of_getElem? (i := 0) rfl), hw _ (wi_X2_0 _ (List.mem_of_getElem? (i := 3) rfl)), fun _ _ => rfl⟩, List.forall_mem_cons.mpr ⟨⟨_, _, _, _, hN.2.1 _ (List.mem_of_getElem? (i := 2) rfl), hw _ (wi_X2_0 _ (List.mem_of_getElem? (i := 4) rfl)), fun _ _ => rfl⟩, List.forall_mem_cons.mpr ⟨⟨_, _, _, _, hN.2.1 _ (List.mem_of_getElem? (i := 1) rfl), hw _ (wi_X2_0 _ (List.mem_of_getElem? (i := 8) rfl)), fun _ _ => rfl⟩, (fun _ h => absurd h List.not_mem_nil)⟩⟩⟩⟩
  have h4 : ∀ q ∈ ck_X2, rf_LD p l e R s m args below meth c cc xt A s.heap q := (fun _ h => absurd h List.not_mem_nil)
  have h5 : ∀ i ∈ ca_X2, (Cond.classLink RX2 i "LeftAsFound$Shelf").before args s = true := (fun _ h => absurd h List.not_mem_nil)
  have h6 : ∀ t : ArrayType, rf_akd t ≤ 3 → (Cond.arrayClass (newarray.typeOf t)).before args s = true := by
    intro t ht
    cases t <;> first | exact hw _ (wi_X2_1 _ (List.mem_of_getElem? (i := 20) rfl)) | exact hw _ (wi_X2_1 _ (List.mem_of_getElem? (i := 21) rfl)) | exact hw _ (wi_X2_1 _ (List.mem_of_getElem? (i := 22) rfl)) | exact hw _ (wi_X2_1 _ (List.mem_of_getElem? (i := 23) rfl)) | exact absurd ht (by decide)
  exact ⟨⟨hx, hb, hml, hown, hw, en_CL⟩, ⟨hK, hTY, hA, rfl⟩, ⟨h1, h2, h3, h4, hML, h5⟩, ⟨hN.1, hN.2.2.2.1, h6, en_Nok xt, hN⟩, hR, ⟨fun C hC => by cases hC; rfl, hin, ⟨_, _, rfl⟩, fun h => absurd (show (2 : Nat) = 98 from h) (by decide)⟩⟩
def cf_X3 : List (Nat × Nat × Nat) := [(9, 3, 0), (13, 3, 3), (16, 3, 4), (19, 3, 5), (22, 3, 6), (25, 3, 1), (29, 3, 8), (32, 3, 7), (35, 3, 9), (42, 3, 2)]
def cn_X3 : List (Nat × Nat) := []
def cs_X3 : List (Nat × rf_AV) := [(75, (4, 4, Int.ofNat 0))]
def ck_X3 : List (Nat × Nat × rf_AV) := [(0, 59, (0, 0, Int.ofNat 65536)), (0, 68, (4, 8, Int.ofNat 0)), (0, 87, (4, 7, Int.ofNat 0)), (1, 59, (0, 0, Int.ofNat 65536))]
def ca_X3 : List Nat := []
theorem cx_X3 {p : Program} {l : Launch} {e : Env} {R : Room} {s : State} {m : MethodId} {args : Array Value} {below : List Frame} {meth : Method} {c : Code} {cc : ByteArray} {D : va_G} {tys : List (ClassId × FieldType)} {xt : Nat → Nat} {A : Nat → Prop} {c0 : Cond} {ML : List (Nat × Nat × Nat × List rf_SP)} {ini df : Bool} {nL RF RC RS RL : Nat} (hTY : rf_TY tys "LeftAsFound$Shelf") (hx : p.tables.exec = Jvm.exec) (hb : c.code = cc) (hml : c.maxLocals = nL) (hown : s.vm.findClass RX3 = some m.cls) (hts : ∀ w ∈ c0 :: en_G, w.before args s = true) (hK : va_K D nm_cl tys s) (hN : en_N xt A s) (hA : ∀ q, s.heap.size ≤ q → A q) (hin : ini = true → meth.name = "<init>") (hML : ∀ q ∈ ML, rf_MLok p l e R s m args below meth c cc nL RX3 D nm_cl tys xt (en_N xt) en_G q) (hR : RF ≤ R.frames ∧ RC ≤ R.cells ∧ RS ≤ R.slots ∧ RL ≤ R.locals) :
    rf_CT p l e R s m args below meth c cc RX3 D nm_cl nm_ct tys xt en_xs (en_N xt) en_G en_G "LeftAsFound$Shelf" 8 A s.heap (cf_X3, cn_X3, cs_X3, ck_X3, ML, ca_X3, (3, ini, df), (nL, RF, RC, RS, RL)) := by
  have hw : ∀ w ∈ en_G, w.before args s = true := fun w h => hts w (List.mem_cons_of_mem _ h)
  have h1 : rf_FLok RX3 nm_cl cf_X3 args s := List.forall_mem_cons.mpr ⟨⟨_, _, _, rfl, by decide, rfl, hw _ (wi_X3_0 _ (List.mem_of_getElem? (i := 1) rfl))⟩, List.forall_mem_cons.mpr ⟨⟨_, _, _, rfl, by decide, rfl, hw _ (wi_X3_0 _ (List.mem_of_getElem? (i := 4) rfl))⟩, List.forall_mem_cons.mpr ⟨⟨_, _, _, rfl, by decide, rfl, hw _ (wi_X3_0 _ (List.mem_of_getElem? (i := 5) rfl))⟩, List.forall_mem_cons.mpr ⟨⟨_, _, _, rfl, by decide, rfl, hw _ (wi_X3_0 _ (List.mem_of_getElem? (i := 6) rfl))⟩, List.forall_mem_cons.mpr ⟨⟨_, _, _, rfl, by decide, rfl, hw _ (wi_X3_0 _ (List.mem_of_getElem? (i := 7) rfl))⟩, List.forall_mem_cons.mpr ⟨⟨_, _, _, rfl, by decide, rfl, hw _ (wi_X3_0 _ (List.mem_of_getElem? (i := 2) rfl))⟩, List.forall_mem_cons.mpr ⟨⟨_, _, _, rfl, by decide, rfl, hw _ (wi_X3_0 _ (List.mem_of_getElem? (i := 9) rfl))⟩, List.forall_mem_cons.mpr ⟨⟨_, _, _, rfl, by decide, rfl, hw _ (wi_X3_0 _ (List.mem_of_getElem? (i := 8) rfl))⟩, List.forall_mem_cons.mpr ⟨⟨_, _, _, rfl, by decide, rfl, hw _ (wi_X3_0 _ (List.mem_of_getElem? (i := 10) rfl))⟩, List.forall_mem_cons.mpr ⟨⟨_, _, _, rfl, by decide, rfl, hw _ (wi_X3_0 _ (List.mem_of_getElem? (i := 3) rfl))⟩, (fun _ h => absurd h List.not_mem_nil)⟩⟩⟩⟩⟩⟩⟩⟩⟩⟩
  have h2 : rf_NLok RX3 nm_cl cn_X3 args s := (fun _ h => absurd h List.not_mem_nil)
  have h3 : rf_SLok RX3 cs_X3 xt A args s := List.forall_mem_cons.mpr ⟨⟨_, _, _, _, hN.2.1 _ (List.mem_of_getElem? (i := 4) rfl), hw _ (wi_X3_0 _ (List.mem_of_getElem? (i := 22) rfl)), fun _ _ => rfl⟩, (fun _ h => absurd h List.not_mem_nil)⟩
  have h4 : ∀ q ∈ ck_X3, rf_LD p l e R s m args below meth c cc xt A s.heap q := List.forall_mem_cons.mpr ⟨cx_li hx hb hown (hw _ (wi_X3_0 _ (List.mem_of_getElem? (i := 23) rfl))) (by decide), List.forall_mem_cons.mpr ⟨cx_ls hx hb hown (hN.2.2.2.2.2.2.1), List.forall_mem_cons.mpr ⟨cx_ls hx hb hown (hN.2.2.2.2.2.1), List.forall_mem_cons.mpr ⟨cx_lw hx hb hown (hw _ (wi_X3_0 _ (List.mem_of_getElem? (i := 23) rfl))) (by decide), (fun _ h => absurd h List.not_mem_nil)⟩⟩⟩⟩
  have h5 : ∀ i ∈ ca_X3, (Cond.classLink RX3 i "LeftAsFound$Shelf").before args s = true := (fun _ h => absurd h List.not_mem_nil)
  have h6 : ∀ t : ArrayType, rf_akd t ≤ 3 → (Cond.arrayClass (newarray.typeOf t)).before args s = true := by
    intro t ht
    cases t <;> first | exact hw _ (wi_X3_2 _ (List.mem_of_getElem? (i := 7) rfl)) | exact hw _ (wi_X3_2 _ (List.mem_of_getElem? (i := 8) rfl)) | exact hw _ (wi_X3_2 _ (List.mem_of_getElem? (i := 9) rfl)) | exact hw _ (wi_X3_2 _ (List.mem_of_getElem? (i := 10) rfl)) | exact absurd ht (by decide)
  exact ⟨⟨hx, hb, hml, hown, hw, en_CL⟩, ⟨hK, hTY, hA, rfl⟩, ⟨h1, h2, h3, h4, hML, h5⟩, ⟨hN.1, hN.2.2.2.1, h6, en_Nok xt, hN⟩, hR, ⟨fun C hC => by cases hC; rfl, hin, ⟨_, _, rfl⟩, fun h => absurd (show (3 : Nat) = 98 from h) (by decide)⟩⟩
def cf_X4 : List (Nat × Nat × Nat) := [(9, 4, 3), (15, 4, 0), (18, 4, 2), (21, 4, 1)]
def cn_X4 : List (Nat × Nat) := []
def cs_X4 : List (Nat × rf_AV) := []
def ck_X4 : List (Nat × Nat × rf_AV) := []
def ca_X4 : List Nat := []
theorem cx_X4 {p : Program} {l : Launch} {e : Env} {R : Room} {s : State} {m : MethodId} {args : Array Value} {below : List Frame} {meth : Method} {c : Code} {cc : ByteArray} {D : va_G} {tys : List (ClassId × FieldType)} {xt : Nat → Nat} {A : Nat → Prop} {c0 : Cond} {ML : List (Nat × Nat × Nat × List rf_SP)} {ini df : Bool} {nL RF RC RS RL : Nat} (hTY : rf_TY tys "LeftAsFound$Shelf") (hx : p.tables.exec = Jvm.exec) (hb : c.code = cc) (hml : c.maxLocals = nL) (hown : s.vm.findClass RX4 = some m.cls) (hts : ∀ w ∈ c0 :: en_G, w.before args s = true) (hK : va_K D nm_cl tys s) (hN : en_N xt A s) (hA : ∀ q, s.heap.size ≤ q → A q) (hin : ini = true → meth.name = "<init>") (hML : ∀ q ∈ ML, rf_MLok p l e R s m args below meth c cc nL RX4 D nm_cl tys xt (en_N xt) en_G q) (hR : RF ≤ R.frames ∧ RC ≤ R.cells ∧ RS ≤ R.slots ∧ RL ≤ R.locals) :
    rf_CT p l e R s m args below meth c cc RX4 D nm_cl nm_ct tys xt en_xs (en_N xt) en_G en_G "LeftAsFound$Shelf" 8 A s.heap (cf_X4, cn_X4, cs_X4, ck_X4, ML, ca_X4, (4, ini, df), (nL, RF, RC, RS, RL)) := by
  have hw : ∀ w ∈ en_G, w.before args s = true := fun w h => hts w (List.mem_cons_of_mem _ h)
  have h1 : rf_FLok RX4 nm_cl cf_X4 args s := List.forall_mem_cons.mpr ⟨⟨_, _, _, rfl, by decide, rfl, hw _ (wi_X4_0 _ (List.mem_of_getElem? (i := 4) rfl))⟩, List.forall_mem_cons.mpr ⟨⟨_, _, _, rfl, by decide, rfl, hw _ (wi_X4_0 _ (List.mem_of_getElem? (i := 1) rfl))⟩, List.forall_mem_cons.mpr ⟨⟨_, _, _, rfl, by decide, rfl, hw _ (wi_X4_0 _ (List.mem_of_getElem? (i := 3) rfl))⟩, List.forall_mem_cons.mpr ⟨⟨_, _, _, rfl, by decide, rfl, hw _ (wi_X4_0 _ (List.mem_of_getElem? (i := 2) rfl))⟩, (fun _ h => absurd h List.not_mem_nil)⟩⟩⟩⟩
  have h2 : rf_NLok RX4 nm_cl cn_X4 args s := (fun _ h => absurd h List.not_mem_nil)
  have h3 : rf_SLok RX4 cs_X4 xt A args s := (fun _ h => absurd h List.not_mem_nil)
  have h4 : ∀ q ∈ ck_X4, rf_LD p l e R s m args below meth c cc xt A s.heap q := (fun _ h => absurd h List.not_mem_nil)
  have h5 : ∀ i ∈ ca_X4, (Cond.classLink RX4 i "LeftAsFound$Shelf").before args s = true := (fun _ h => absurd h List.not_mem_nil)
  have h6 : ∀ t : ArrayType, rf_akd t ≤ 3 → (Cond.arrayClass (newarray.typeOf t)).before args s = true := by
    intro t ht
    cases t <;> first | exact hw _ (wi_X4_0 _ (List.mem_of_getElem? (i := 7) rfl)) | exact hw _ (wi_X4_0 _ (List.mem_of_getElem? (i := 8) rfl)) | exact hw _ (wi_X4_0 _ (List.mem_of_getElem? (i := 9) rfl)) | exact hw _ (wi_X4_0 _ (List.mem_of_getElem? (i := 10) rfl)) | exact absurd ht (by decide)
  exact ⟨⟨hx, hb, hml, hown, hw, en_CL⟩, ⟨hK, hTY, hA, rfl⟩, ⟨h1, h2, h3, h4, hML, h5⟩, ⟨hN.1, hN.2.2.2.1, h6, en_Nok xt, hN⟩, hR, ⟨fun C hC => by cases hC; rfl, hin, ⟨_, _, rfl⟩, fun h => absurd (show (4 : Nat) = 98 from h) (by decide)⟩⟩
def cf_X5 : List (Nat × Nat × Nat) := [(11, 5, 0), (23, 9, 2), (35, 5, 1), (39, 5, 2), (42, 6, 0), (51, 6, 1), (54, 6, 2)]
def cn_X5 : List (Nat × Nat) := []
def cs_X5 : List (Nat × rf_AV) := []
def ck_X5 : List (Nat × Nat × rf_AV) := []
def ca_X5 : List Nat := []
theorem cx_X5 {p : Program} {l : Launch} {e : Env} {R : Room} {s : State} {m : MethodId} {args : Array Value} {below : List Frame} {meth : Method} {c : Code} {cc : ByteArray} {D : va_G} {tys : List (ClassId × FieldType)} {xt : Nat → Nat} {A : Nat → Prop} {c0 : Cond} {ML : List (Nat × Nat × Nat × List rf_SP)} {ini df : Bool} {nL RF RC RS RL : Nat} (hTY : rf_TY tys "LeftAsFound$Shelf") (hx : p.tables.exec = Jvm.exec) (hb : c.code = cc) (hml : c.maxLocals = nL) (hown : s.vm.findClass RX5 = some m.cls) (hts : ∀ w ∈ c0 :: en_G, w.before args s = true) (hK : va_K D nm_cl tys s) (hN : en_N xt A s) (hA : ∀ q, s.heap.size ≤ q → A q) (hin : ini = true → meth.name = "<init>") (hML : ∀ q ∈ ML, rf_MLok p l e R s m args below meth c cc nL RX5 D nm_cl tys xt (en_N xt) en_G q) (hR : RF ≤ R.frames ∧ RC ≤ R.cells ∧ RS ≤ R.slots ∧ RL ≤ R.locals) :
    rf_CT p l e R s m args below meth c cc RX5 D nm_cl nm_ct tys xt en_xs (en_N xt) en_G en_G "LeftAsFound$Shelf" 8 A s.heap (cf_X5, cn_X5, cs_X5, ck_X5, ML, ca_X5, (5, ini, df), (nL, RF, RC, RS, RL)) := by
  have hw : ∀ w ∈ en_G, w.before args s = true := fun w h => hts w (List.mem_cons_of_mem _ h)
  have h1 : rf_FLok RX5 nm_cl cf_X5 args s := List.forall_mem_cons.mpr ⟨⟨_, _, _, rfl, by decide, rfl, hw _ (wi_X5_0 _ (List.mem_of_getElem? (i := 5) rfl))⟩, List.forall_mem_cons.mpr ⟨⟨_, _, _, rfl, by decide, rfl, hw _ (wi_X5_0 _ (List.mem_of_getElem? (i := 3) rfl))⟩, List.forall_mem_cons.mpr ⟨⟨_, _, _, rfl, by decide, rfl, hw _ (wi_X5_0 _ (List.mem_of_getElem? (i := 6) rfl))⟩, List.forall_mem_cons.mpr ⟨⟨_, _, _, rfl, by decide, rfl, hw _ (wi_X5_0 _ (List.mem_of_getElem? (i := 7) rfl))⟩, List.forall_mem_cons.mpr ⟨⟨_, _, _, rfl, by decide, rfl, hw _ (wi_X5_0 _ (List.mem_of_getElem? (i := 0) rfl))⟩, List.forall_mem_cons.mpr ⟨⟨_, _, _, rfl, by decide, rfl, hw _ (wi_X5_0 _ (List.mem_of_getElem? (i := 1) rfl))⟩, List.forall_mem_cons.mpr ⟨⟨_, _, _, rfl, by decide, rfl, hw _ (wi_X5_0 _ (List.mem_of_getElem? (i := 2) rfl))⟩, (fun _ h => absurd h List.not_mem_nil)⟩⟩⟩⟩⟩⟩⟩
  have h2 : rf_NLok RX5 nm_cl cn_X5 args s := (fun _ h => absurd h List.not_mem_nil)
  have h3 : rf_SLok RX5 cs_X5 xt A args s := (fun _ h => absurd h List.not_mem_nil)
  have h4 : ∀ q ∈ ck_X5, rf_LD p l e R s m args below meth c cc xt A s.heap q := (fun _ h => absurd h List.not_mem_nil)
  have h5 : ∀ i ∈ ca_X5, (Cond.classLink RX5 i "LeftAsFound$Shelf").before args s = true := (fun _ h => absurd h List.not_mem_nil)
  have h6 : ∀ t : ArrayType, rf_akd t ≤ 3 → (Cond.arrayClass (newarray.typeOf t)).before args s = true := by
    intro t ht
    cases t <;> first | exact hw _ (wi_X5_1 _ (List.mem_of_getElem? (i := 1) rfl)) | exact hw _ (wi_X5_1 _ (List.mem_of_getElem? (i := 2) rfl)) | exact hw _ (wi_X5_1 _ (List.mem_of_getElem? (i := 3) rfl)) | exact hw _ (wi_X5_1 _ (List.mem_of_getElem? (i := 4) rfl)) | exact absurd ht (by decide)
  exact ⟨⟨hx, hb, hml, hown, hw, en_CL⟩, ⟨hK, hTY, hA, rfl⟩, ⟨h1, h2, h3, h4, hML, h5⟩, ⟨hN.1, hN.2.2.2.1, h6, en_Nok xt, hN⟩, hR, ⟨fun C hC => by cases hC; rfl, hin, ⟨_, _, rfl⟩, fun h => absurd (show (5 : Nat) = 98 from h) (by decide)⟩⟩
def cf_X6 : List (Nat × Nat × Nat) := [(9, 6, 0), (15, 6, 1), (18, 6, 3), (21, 6, 2)]
def cn_X6 : List (Nat × Nat) := []
def cs_X6 : List (Nat × rf_AV) := []
def ck_X6 : List (Nat × Nat × rf_AV) := []
def ca_X6 : List Nat := []
theorem cx_X6 {p : Program} {l : Launch} {e : Env} {R : Room} {s : State} {m : MethodId} {args : Array Value} {below : List Frame} {meth : Method} {c : Code} {cc : ByteArray} {D : va_G} {tys : List (ClassId × FieldType)} {xt : Nat → Nat} {A : Nat → Prop} {c0 : Cond} {ML : List (Nat × Nat × Nat × List rf_SP)} {ini df : Bool} {nL RF RC RS RL : Nat} (hTY : rf_TY tys "LeftAsFound$Shelf") (hx : p.tables.exec = Jvm.exec) (hb : c.code = cc) (hml : c.maxLocals = nL) (hown : s.vm.findClass RX6 = some m.cls) (hts : ∀ w ∈ c0 :: en_G, w.before args s = true) (hK : va_K D nm_cl tys s) (hN : en_N xt A s) (hA : ∀ q, s.heap.size ≤ q → A q) (hin : ini = true → meth.name = "<init>") (hML : ∀ q ∈ ML, rf_MLok p l e R s m args below meth c cc nL RX6 D nm_cl tys xt (en_N xt) en_G q) (hR : RF ≤ R.frames ∧ RC ≤ R.cells ∧ RS ≤ R.slots ∧ RL ≤ R.locals) :
    rf_CT p l e R s m args below meth c cc RX6 D nm_cl nm_ct tys xt en_xs (en_N xt) en_G en_G "LeftAsFound$Shelf" 8 A s.heap (cf_X6, cn_X6, cs_X6, ck_X6, ML, ca_X6, (6, ini, df), (nL, RF, RC, RS, RL)) := by
  have hw : ∀ w ∈ en_G, w.before args s = true := fun w h => hts w (List.mem_cons_of_mem _ h)
  have h1 : rf_FLok RX6 nm_cl cf_X6 args s := List.forall_mem_cons.mpr ⟨⟨_, _, _, rfl, by decide, rfl, hw _ (wi_X6_0 _ (List.mem_of_getElem? (i := 1) rfl))⟩, List.forall_mem_cons.mpr ⟨⟨_, _, _, rfl, by decide, rfl, hw _ (wi_X6_0 _ (List.mem_of_getElem? (i := 2) rfl))⟩, List.forall_mem_cons.mpr ⟨⟨_, _, _, rfl, by decide, rfl, hw _ (wi_X6_0 _ (List.mem_of_getElem? (i := 4) rfl))⟩, List.forall_mem_cons.mpr ⟨⟨_, _, _, rfl, by decide, rfl, hw _ (wi_X6_0 _ (List.mem_of_getElem? (i := 3) rfl))⟩, (fun _ h => absurd h List.not_mem_nil)⟩⟩⟩⟩
  have h2 : rf_NLok RX6 nm_cl cn_X6 args s := (fun _ h => absurd h List.not_mem_nil)
  have h3 : rf_SLok RX6 cs_X6 xt A args s := (fun _ h => absurd h List.not_mem_nil)
  have h4 : ∀ q ∈ ck_X6, rf_LD p l e R s m args below meth c cc xt A s.heap q := (fun _ h => absurd h List.not_mem_nil)
  have h5 : ∀ i ∈ ca_X6, (Cond.classLink RX6 i "LeftAsFound$Shelf").before args s = true := (fun _ h => absurd h List.not_mem_nil)
  have h6 : ∀ t : ArrayType, rf_akd t ≤ 3 → (Cond.arrayClass (newarray.typeOf t)).before args s = true := by
    intro t ht
    cases t <;> first | exact hw _ (wi_X6_1 _ (List.mem_of_getElem? (i := 11) rfl)) | exact hw _ (wi_X6_1 _ (List.mem_of_getElem? (i := 12) rfl)) | exact hw _ (wi_X6_1 _ (List.mem_of_getElem? (i := 13) rfl)) | exact hw _ (wi_X6_1 _ (List.mem_of_getElem? (i := 14) rfl)) | exact absurd ht (by decide)
  exact ⟨⟨hx, hb, hml, hown, hw, en_CL⟩, ⟨hK, hTY, hA, rfl⟩, ⟨h1, h2, h3, h4, hML, h5⟩, ⟨hN.1, hN.2.2.2.1, h6, en_Nok xt, hN⟩, hR, ⟨fun C hC => by cases hC; rfl, hin, ⟨_, _, rfl⟩, fun h => absurd (show (6 : Nat) = 98 from h) (by decide)⟩⟩
def cf_X7 : List (Nat × Nat × Nat) := [(9, 7, 1), (15, 7, 2), (18, 7, 3), (21, 7, 4), (24, 7, 0), (28, 8, 4), (40, 7, 5), (43, 7, 6), (50, 7, 7), (53, 6, 0), (58, 7, 8), (61, 6, 1), (64, 7, 9), (67, 6, 3), (70, 7, 10), (73, 6, 2), (77, 2, 2)]
def cn_X7 : List (Nat × Nat) := []
def cs_X7 : List (Nat × rf_AV) := []
def ck_X7 : List (Nat × Nat × rf_AV) := []
def ca_X7 : List Nat := []
theorem cx_X7 {p : Program} {l : Launch} {e : Env} {R : Room} {s : State} {m : MethodId} {args : Array Value} {below : List Frame} {meth : Method} {c : Code} {cc : ByteArray} {D : va_G} {tys : List (ClassId × FieldType)} {xt : Nat → Nat} {A : Nat → Prop} {c0 : Cond} {ML : List (Nat × Nat × Nat × List rf_SP)} {ini df : Bool} {nL RF RC RS RL : Nat} (hTY : rf_TY tys "LeftAsFound$Shelf") (hx : p.tables.exec = Jvm.exec) (hb : c.code = cc) (hml : c.maxLocals = nL) (hown : s.vm.findClass RX7 = some m.cls) (hts : ∀ w ∈ c0 :: en_G, w.before args s = true) (hK : va_K D nm_cl tys s) (hN : en_N xt A s) (hA : ∀ q, s.heap.size ≤ q → A q) (hin : ini = true → meth.name = "<init>") (hML : ∀ q ∈ ML, rf_MLok p l e R s m args below meth c cc nL RX7 D nm_cl tys xt (en_N xt) en_G q) (hR : RF ≤ R.frames ∧ RC ≤ R.cells ∧ RS ≤ R.slots ∧ RL ≤ R.locals) :
    rf_CT p l e R s m args below meth c cc RX7 D nm_cl nm_ct tys xt en_xs (en_N xt) en_G en_G "LeftAsFound$Shelf" 8 A s.heap (cf_X7, cn_X7, cs_X7, ck_X7, ML, ca_X7, (7, ini, df), (nL, RF, RC, RS, RL)) := by
  have hw : ∀ w ∈ en_G, w.before args s = true := fun w h => hts w (List.mem_cons_of_mem _ h)
  have h1 : rf_FLok RX7 nm_cl cf_X7 args s := List.forall_mem_cons.mpr ⟨⟨_, _, _, rfl, by decide, rfl, hw _ (wi_X7_0 _ (List.mem_of_getElem? (i := 8) rfl))⟩, List.forall_mem_cons.mpr ⟨⟨_, _, _, rfl, by decide, rfl, hw _ (wi_X7_0 _ (List.mem_of_getElem? (i := 9) rfl))⟩, List.forall_mem_cons.mpr ⟨⟨_, _, _, rfl, by decide, rfl, hw _ (wi_X7_0 _ (List.mem_of_getElem? (i := 10) rfl))⟩, List.forall_mem_cons.mpr ⟨⟨_, _, _, rfl, by decide, rfl, hw _ (wi_X7_0 _ (List.mem_of_getElem? (i := 11) rfl))⟩, List.forall_mem_cons.mpr ⟨⟨_, _, _, rfl, by decide, rfl, hw _ (wi_X7_0 _ (List.mem_of_getElem? (i := 7) rfl))⟩, List.forall_mem_cons.mpr ⟨⟨_, _, _, rfl, by decide, rfl, hw _ (wi_X7_0 _ (List.mem_of_getElem? (i := 5) rfl))⟩, List.forall_mem_cons.mpr ⟨⟨_, _, _, rfl, by decide, rfl, hw _ (wi_X7_0 _ (List.mem_of_getElem? (i := 12) rfl))⟩, List.forall_mem_cons.mpr ⟨⟨_, _, _, rfl, by decide, rfl, hw _ (wi_X7_0 _ (List.mem_of_getElem? (i := 13) rfl))⟩, List.forall_mem_cons.mpr ⟨⟨_, _, _, rfl, by decide, rfl, hw _ (wi_X7_0 _ (List.mem_of_getElem? (i := 14) rfl))⟩, List.forall_mem_cons.mpr ⟨⟨_, _, _, rfl, by decide, rfl, hw _ (wi_X7_0 _ (List.mem_of_getElem? (i := 1) rfl))⟩, List.forall_mem_cons.mpr ⟨⟨_, _, _, rfl, by decide, rfl, hw _ (wi_X7_0 _ (List.mem_of_getElem? (i := 15) rfl))⟩, List.forall_mem_cons.mpr ⟨⟨_, _, _, rfl, by decide, rfl, hw _ (wi_X7_0 _ (List.mem_of_getElem? (i := 2) rfl))⟩, List.forall_mem_cons.mpr ⟨⟨_, _, _, rfl, by decide, rfl, hw _ (wi_X7_0 _ (List.mem_of_getElem? (i := 16) rfl))⟩, List.forall_mem_cons.mpr ⟨⟨_, _, _, rfl, by decide, rfl, hw _ (wi_X7_0 _ (List.mem_of_getElem? (i := 4) rfl))⟩, List.forall_mem_cons.mpr ⟨⟨_, _, _, rfl, by decide, rfl, hw _ (wi_X7_0 _ (List.mem_of_getElem? (i := 17) rfl))⟩, List.forall_mem_cons.mpr ⟨⟨_, _, _, rfl, by decide, rfl, hw _ (wi_X7_0 _ (List.mem_of_getElem? (i := 3) rfl))⟩, List.forall_mem_cons.mpr ⟨⟨_, _, _, rfl, by decide, rfl, hw _ (wi_X7_0 _ (List.mem_of_getElem? (i := 0) rfl))⟩, (fun _ h => absurd h List.not_mem_nil)⟩⟩⟩⟩⟩⟩⟩⟩⟩⟩⟩⟩⟩⟩⟩⟩⟩
  have h2 : rf_NLok RX7 nm_cl cn_X7 args s := (fun _ h => absurd h List.not_mem_nil)
  have h3 : rf_SLok RX7 cs_X7 xt A args s := (fun _ h => absurd h List.not_mem_nil)
  have h4 : ∀ q ∈ ck_X7, rf_LD p l e R s m args below meth c cc xt A s.heap q := (fun _ h => absurd h List.not_mem_nil)
  have h5 : ∀ i ∈ ca_X7, (Cond.classLink RX7 i "LeftAsFound$Shelf").before args s = true := (fun _ h => absurd h List.not_mem_nil)
  have h6 : ∀ t : ArrayType, rf_akd t ≤ 3 → (Cond.arrayClass (newarray.typeOf t)).before args s = true := by
    intro t ht
    cases t <;> first | exact hw _ (wi_X7_1 _ (List.mem_of_getElem? (i := 25) rfl)) | exact hw _ (wi_X7_1 _ (List.mem_of_getElem? (i := 26) rfl)) | exact hw _ (wi_X7_1 _ (List.mem_of_getElem? (i := 27) rfl)) | exact hw _ (wi_X7_1 _ (List.mem_of_getElem? (i := 28) rfl)) | exact absurd ht (by decide)
  exact ⟨⟨hx, hb, hml, hown, hw, en_CL⟩, ⟨hK, hTY, hA, rfl⟩, ⟨h1, h2, h3, h4, hML, h5⟩, ⟨hN.1, hN.2.2.2.1, h6, en_Nok xt, hN⟩, hR, ⟨fun C hC => by cases hC; rfl, hin, ⟨_, _, rfl⟩, fun h => absurd (show (7 : Nat) = 98 from h) (by decide)⟩⟩
def cf_X8 : List (Nat × Nat × Nat) := [(9, 8, 0), (15, 8, 1), (19, 8, 4), (22, 8, 2), (25, 8, 3)]
def cn_X8 : List (Nat × Nat) := []
def cs_X8 : List (Nat × rf_AV) := []
def ck_X8 : List (Nat × Nat × rf_AV) := []
def ca_X8 : List Nat := []
theorem cx_X8 {p : Program} {l : Launch} {e : Env} {R : Room} {s : State} {m : MethodId} {args : Array Value} {below : List Frame} {meth : Method} {c : Code} {cc : ByteArray} {D : va_G} {tys : List (ClassId × FieldType)} {xt : Nat → Nat} {A : Nat → Prop} {c0 : Cond} {ML : List (Nat × Nat × Nat × List rf_SP)} {ini df : Bool} {nL RF RC RS RL : Nat} (hTY : rf_TY tys "LeftAsFound$Shelf") (hx : p.tables.exec = Jvm.exec) (hb : c.code = cc) (hml : c.maxLocals = nL) (hown : s.vm.findClass RX8 = some m.cls) (hts : ∀ w ∈ c0 :: en_G, w.before args s = true) (hK : va_K D nm_cl tys s) (hN : en_N xt A s) (hA : ∀ q, s.heap.size ≤ q → A q) (hin : ini = true → meth.name = "<init>") (hML : ∀ q ∈ ML, rf_MLok p l e R s m args below meth c cc nL RX8 D nm_cl tys xt (en_N xt) en_G q) (hR : RF ≤ R.frames ∧ RC ≤ R.cells ∧ RS ≤ R.slots ∧ RL ≤ R.locals) :
    rf_CT p l e R s m args below meth c cc RX8 D nm_cl nm_ct tys xt en_xs (en_N xt) en_G en_G "LeftAsFound$Shelf" 8 A s.heap (cf_X8, cn_X8, cs_X8, ck_X8, ML, ca_X8, (8, ini, df), (nL, RF, RC, RS, RL)) := by
  have hw : ∀ w ∈ en_G, w.before args s = true := fun w h => hts w (List.mem_cons_of_mem _ h)
  have h1 : rf_FLok RX8 nm_cl cf_X8 args s := List.forall_mem_cons.mpr ⟨⟨_, _, _, rfl, by decide, rfl, hw _ (wi_X8_0 _ (List.mem_of_getElem? (i := 1) rfl))⟩, List.forall_mem_cons.mpr ⟨⟨_, _, _, rfl, by decide, rfl, hw _ (wi_X8_0 _ (List.mem_of_getElem? (i := 2) rfl))⟩, List.forall_mem_cons.mpr ⟨⟨_, _, _, rfl, by decide, rfl, hw _ (wi_X8_0 _ (List.mem_of_getElem? (i := 5) rfl))⟩, List.forall_mem_cons.mpr ⟨⟨_, _, _, rfl, by decide, rfl, hw _ (wi_X8_0 _ (List.mem_of_getElem? (i := 3) rfl))⟩, List.forall_mem_cons.mpr ⟨⟨_, _, _, rfl, by decide, rfl, hw _ (wi_X8_0 _ (List.mem_of_getElem? (i := 4) rfl))⟩, (fun _ h => absurd h List.not_mem_nil)⟩⟩⟩⟩⟩
  have h2 : rf_NLok RX8 nm_cl cn_X8 args s := (fun _ h => absurd h List.not_mem_nil)
  have h3 : rf_SLok RX8 cs_X8 xt A args s := (fun _ h => absurd h List.not_mem_nil)
  have h4 : ∀ q ∈ ck_X8, rf_LD p l e R s m args below meth c cc xt A s.heap q := (fun _ h => absurd h List.not_mem_nil)
  have h5 : ∀ i ∈ ca_X8, (Cond.classLink RX8 i "LeftAsFound$Shelf").before args s = true := (fun _ h => absurd h List.not_mem_nil)
  have h6 : ∀ t : ArrayType, rf_akd t ≤ 3 → (Cond.arrayClass (newarray.typeOf t)).before args s = true := by
    intro t ht
    cases t <;> first | exact hw _ (wi_X8_0 _ (List.mem_of_getElem? (i := 8) rfl)) | exact hw _ (wi_X8_0 _ (List.mem_of_getElem? (i := 9) rfl)) | exact hw _ (wi_X8_0 _ (List.mem_of_getElem? (i := 10) rfl)) | exact hw _ (wi_X8_0 _ (List.mem_of_getElem? (i := 11) rfl)) | exact absurd ht (by decide)
  exact ⟨⟨hx, hb, hml, hown, hw, en_CL⟩, ⟨hK, hTY, hA, rfl⟩, ⟨h1, h2, h3, h4, hML, h5⟩, ⟨hN.1, hN.2.2.2.1, h6, en_Nok xt, hN⟩, hR, ⟨fun C hC => by cases hC; rfl, hin, ⟨_, _, rfl⟩, fun h => absurd (show (8 : Nat) = 98 from h) (by decide)⟩⟩
def cf_X9 : List (Nat × Nat × Nat) := [(12, 9, 2), (18, 9, 3), (22, 9, 4), (25, 9, 8), (28, 9, 9), (31, 9, 0), (35, 9, 1), (44, 8, 4), (54, 9, 5), (78, 6, 0), (88, 2, 2), (104, 9, 6), (113, 9, 7), (131, 9, 10), (153, 9, 11), (156, 9, 12)]
def cn_X9 : List (Nat × Nat) := [(9, 6)]
def cs_X9 : List (Nat × rf_AV) := []
def ck_X9 : List (Nat × Nat × rf_AV) := [(0, 159, (0, 0, Int.ofNat 1103515245)), (1, 159, (0, 0, Int.ofNat 1103515245))]
def ca_X9 : List Nat := []
theorem cx_X9 {p : Program} {l : Launch} {e : Env} {R : Room} {s : State} {m : MethodId} {args : Array Value} {below : List Frame} {meth : Method} {c : Code} {cc : ByteArray} {D : va_G} {tys : List (ClassId × FieldType)} {xt : Nat → Nat} {A : Nat → Prop} {c0 : Cond} {ML : List (Nat × Nat × Nat × List rf_SP)} {ini df : Bool} {nL RF RC RS RL : Nat} (hTY : rf_TY tys "LeftAsFound$Shelf") (hx : p.tables.exec = Jvm.exec) (hb : c.code = cc) (hml : c.maxLocals = nL) (hown : s.vm.findClass RX9 = some m.cls) (hts : ∀ w ∈ c0 :: en_G, w.before args s = true) (hK : va_K D nm_cl tys s) (hN : en_N xt A s) (hA : ∀ q, s.heap.size ≤ q → A q) (hin : ini = true → meth.name = "<init>") (hML : ∀ q ∈ ML, rf_MLok p l e R s m args below meth c cc nL RX9 D nm_cl tys xt (en_N xt) en_G q) (hR : RF ≤ R.frames ∧ RC ≤ R.cells ∧ RS ≤ R.slots ∧ RL ≤ R.locals) :
    rf_CT p l e R s m args below meth c cc RX9 D nm_cl nm_ct tys xt en_xs (en_N xt) en_G en_G "LeftAsFound$Shelf" 8 A s.heap (cf_X9, cn_X9, cs_X9, ck_X9, ML, ca_X9, (9, ini, df), (nL, RF, RC, RS, RL)) := by
  have hw : ∀ w ∈ en_G, w.before args s = true := fun w h => hts w (List.mem_cons_of_mem _ h)
  have h1 : rf_FLok RX9 nm_cl cf_X9 args s := List.forall_mem_cons.mpr ⟨⟨_, _, _, rfl, by decide, rfl, hw _ (wi_X9_0 _ (List.mem_of_getElem? (i := 8) rfl))⟩, List.forall_mem_cons.mpr ⟨⟨_, _, _, rfl, by decide, rfl, hw _ (wi_X9_0 _ (List.mem_of_getElem? (i := 9) rfl))⟩, List.forall_mem_cons.mpr ⟨⟨_, _, _, rfl, by decide, rfl, hw _ (wi_X9_0 _ (List.mem_of_getElem? (i := 10) rfl))⟩, List.forall_mem_cons.mpr ⟨⟨_, _, _, rfl, by decide, rfl, hw _ (wi_X9_0 _ (List.mem_of_getElem? (i := 14) rfl))⟩, List.forall_mem_cons.mpr ⟨⟨_, _, _, rfl, by decide, rfl, hw _ (wi_X9_0 _ (List.mem_of_getElem? (i := 15) rfl))⟩, List.forall_mem_cons.mpr ⟨⟨_, _, _, rfl, by decide, rfl, hw _ (wi_X9_0 _ (List.mem_of_getElem? (i := 6) rfl))⟩, List.forall_mem_cons.mpr ⟨⟨_, _, _, rfl, by decide, rfl, hw _ (wi_X9_0 _ (List.mem_of_getElem? (i := 7) rfl))⟩, List.forall_mem_cons.mpr ⟨⟨_, _, _, rfl, by decide, rfl, hw _ (wi_X9_0 _ (List.mem_of_getElem? (i := 2) rfl))⟩, List.forall_mem_cons.mpr ⟨⟨_, _, _, rfl, by decide, rfl, hw _ (wi_X9_0 _ (List.mem_of_getElem? (i := 11) rfl))⟩, List.forall_mem_cons.mpr ⟨⟨_, _, _, rfl, by decide, rfl, hw _ (wi_X9_0 _ (List.mem_of_getElem? (i := 1) rfl))⟩, List.forall_mem_cons.mpr ⟨⟨_, _, _, rfl, by decide, rfl, hw _ (wi_X9_0 _ (List.mem_of_getElem? (i := 0) rfl))⟩, List.forall_mem_cons.mpr ⟨⟨_, _, _, rfl, by decide, rfl, hw _ (wi_X9_0 _ (List.mem_of_getElem? (i := 12) rfl))⟩, List.forall_mem_cons.mpr ⟨⟨_, _, _, rfl, by decide, rfl, hw _ (wi_X9_0 _ (List.mem_of_getElem? (i := 13) rfl))⟩, List.forall_mem_cons.mpr ⟨⟨_, _, _, rfl, by decide, rfl, hw _ (wi_X9_0 _ (List.mem_of_getElem? (i := 16) rfl))⟩, List.forall_mem_cons.mpr ⟨⟨_, _, _, rfl, by decide, rfl, hw _ (wi_X9_0 _ (List.mem_of_getElem? (i := 17) rfl))⟩, List.forall_mem_cons.mpr ⟨⟨_, _, _, rfl, by decide, rfl, hw _ (wi_X9_0 _ (List.mem_of_getElem? (i := 18) rfl))⟩, (fun _ h => absurd h List.not_mem_nil)⟩⟩⟩⟩⟩⟩⟩⟩⟩⟩⟩⟩⟩⟩⟩⟩
  have h2 : rf_NLok RX9 nm_cl cn_X9 args s := List.forall_mem_cons.mpr ⟨⟨_, _, _, rfl, hw _ (wi_X9_0 _ (List.mem_of_getElem? (i := 4) rfl)), hw _ (wi_X9_1 _ (List.mem_of_getElem? (i := 14) rfl)), hw _ (wi_X9_1 _ (List.mem_of_getElem? (i := 15) rfl))⟩, (fun _ h => absurd h List.not_mem_nil)⟩
  have h3 : rf_SLok RX9 cs_X9 xt A args s := (fun _ h => absurd h List.not_mem_nil)
  have h4 : ∀ q ∈ ck_X9, rf_LD p l e R s m args below meth c cc xt A s.heap q := List.forall_mem_cons.mpr ⟨cx_li hx hb hown (hw _ (wi_X9_1 _ (List.mem_of_getElem? (i := 13) rfl))) (by decide), List.forall_mem_cons.mpr ⟨cx_lw hx hb hown (hw _ (wi_X9_1 _ (List.mem_of_getElem? (i := 13) rfl))) (by decide), (fun _ h => absurd h List.not_mem_nil)⟩⟩
  have h5 : ∀ i ∈ ca_X9, (Cond.classLink RX9 i "LeftAsFound$Shelf").before args s = true := (fun _ h => absurd h List.not_mem_nil)
  have h6 : ∀ t : ArrayType, rf_akd t ≤ 3 → (Cond.arrayClass (newarray.typeOf t)).before args s = true := by
    intro t ht
    cases t <;> first | exact hw _ (wi_X9_4 _ (List.mem_of_getElem? (i := 4) rfl)) | exact hw _ (wi_X9_4 _ (List.mem_of_getElem? (i := 5) rfl)) | exact hw _ (wi_X9_4 _ (List.mem_of_getElem? (i := 6) rfl)) | exact hw _ (wi_X9_4 _ (List.mem_of_getElem? (i := 7) rfl)) | exact absurd ht (by decide)
  exact ⟨⟨hx, hb, hml, hown, hw, en_CL⟩, ⟨hK, hTY, hA, rfl⟩, ⟨h1, h2, h3, h4, hML, h5⟩, ⟨hN.1, hN.2.2.2.1, h6, en_Nok xt, hN⟩, hR, ⟨fun C hC => by cases hC; rfl, hin, ⟨_, _, rfl⟩, fun h => absurd (show (9 : Nat) = 98 from h) (by decide)⟩⟩
def cf_X10 : List (Nat × Nat × Nat) := [(12, 10, 7), (23, 10, 0), (30, 10, 1), (34, 10, 2), (40, 10, 3), (44, 10, 4), (50, 10, 6), (56, 10, 8), (64, 10, 9), (73, 10, 10), (80, 10, 11), (89, 10, 12), (121, 8, 4), (132, 2, 0), (143, 6, 0), (146, 6, 1), (152, 6, 2), (168, 9, 5), (187, 5, 1), (190, 5, 2), (193, 9, 2), (203, 9, 6), (206, 9, 7), (221, 9, 10), (224, 9, 9), (247, 7, 5), (265, 9, 11), (268, 9, 12), (292, 4, 0), (293, 4, 1), (296, 4, 2), (299, 4, 3), (308, 10, 5), (316, 1, 3), (322, 1, 4), (334, 0, 2), (337, 0, 1), (350, 8, 0), (354, 8, 3), (361, 8, 1), (370, 8, 2), (379, 2, 2), (385, 3, 1), (388, 0, 3)]
def cn_X10 : List (Nat × Nat) := [(9, 3), (18, 2), (27, 6), (37, 4), (47, 1), (54, 8), (61, 0), (68, 9), (77, 5), (84, 7)]
def cs_X10 : List (Nat × rf_AV) := []
def ck_X10 : List (Nat × Nat × rf_AV) := [(0, 199, (0, 0, Int.negSucc 1999999999)), (1, 199, (0, 0, Int.negSucc 1999999999)), (2, 227, (1, 0, Int.negSucc 9223372036854775807))]
def ca_X10 : List Nat := [54]
theorem cx_X10 {p : Program} {l : Launch} {e : Env} {R : Room} {s : State} {m : MethodId} {args : Array Value} {below : List Frame} {meth : Method} {c : Code} {cc : ByteArray} {D : va_G} {tys : List (ClassId × FieldType)} {xt : Nat → Nat} {A : Nat → Prop} {c0 : Cond} {ML : List (Nat × Nat × Nat × List rf_SP)} {ini df : Bool} {nL RF RC RS RL : Nat} (hTY : rf_TY tys "LeftAsFound$Shelf") (hx : p.tables.exec = Jvm.exec) (hb : c.code = cc) (hml : c.maxLocals = nL) (hown : s.vm.findClass RX10 = some m.cls) (hts : ∀ w ∈ c0 :: en_G, w.before args s = true) (hK : va_K D nm_cl tys s) (hN : en_N xt A s) (hA : ∀ q, s.heap.size ≤ q → A q) (hin : ini = true → meth.name = "<init>") (hML : ∀ q ∈ ML, rf_MLok p l e R s m args below meth c cc nL RX10 D nm_cl tys xt (en_N xt) en_G q) (hR : RF ≤ R.frames ∧ RC ≤ R.cells ∧ RS ≤ R.slots ∧ RL ≤ R.locals) :
    rf_CT p l e R s m args below meth c cc RX10 D nm_cl nm_ct tys xt en_xs (en_N xt) en_G en_G "LeftAsFound$Shelf" 8 A s.heap (cf_X10, cn_X10, cs_X10, ck_X10, ML, ca_X10, (10, ini, df), (nL, RF, RC, RS, RL)) := by
  have hw : ∀ w ∈ en_G, w.before args s = true := fun w h => hts w (List.mem_cons_of_mem _ h)
  have h1 : rf_FLok RX10 nm_cl cf_X10 args s := List.forall_mem_cons.mpr ⟨⟨_, _, _, rfl, by decide, rfl, hw _ (wi_X10_1 _ (List.mem_of_getElem? (i := 23) rfl))⟩, List.forall_mem_cons.mpr ⟨⟨_, _, _, rfl, by decide, rfl, hw _ (wi_X10_1 _ (List.mem_of_getElem? (i := 16) rfl))⟩, List.forall_mem_cons.mpr ⟨⟨_, _, _, rfl, by decide, rfl, hw _ (wi_X10_1 _ (List.mem_of_getElem? (i := 17) rfl))⟩, List.forall_mem_cons.mpr ⟨⟨_, _, _, rfl, by decide, rfl, hw _ (wi_X10_1 _ (List.mem_of_getElem? (i := 18) rfl))⟩, List.forall_mem_cons.mpr ⟨⟨_, _, _, rfl, by decide, rfl, hw _ (wi_X10_1 _ (List.mem_of_getElem? (i := 19) rfl))⟩, List.forall_mem_cons.mpr ⟨⟨_, _, _, rfl, by decide, rfl, hw _ (wi_X10_1 _ (List.mem_of_getElem? (i := 20) rfl))⟩, List.forall_mem_cons.mpr ⟨⟨_, _, _, rfl, by decide, rfl, hw _ (wi_X10_1 _ (List.mem_of_getElem? (i := 22) rfl))⟩, List.forall_mem_cons.mpr ⟨⟨_, _, _, rfl, by decide, rfl, hw _ (wi_X10_1 _ (List.mem_of_getElem? (i := 24) rfl))⟩, List.forall_mem_cons.mpr ⟨⟨_, _, _, rfl, by decide, rfl, hw _ (wi_X10_1 _ (List.mem_of_getElem? (i := 25) rfl))⟩, List.forall_mem_cons.mpr ⟨⟨_, _, _, rfl, by decide, rfl, hw _ (wi_X10_1 _ (List.mem_of_getElem? (i := 26) rfl))⟩, List.forall_mem_cons.mpr ⟨⟨_, _, _, rfl, by decide, rfl, hw _ (wi_X10_1 _ (List.mem_of_getElem? (i := 27) rfl))⟩, List.forall_mem_cons.mpr ⟨⟨_, _, _, rfl, by decide, rfl, hw _ (wi_X10_1 _ (List.mem_of_getElem? (i := 28) rfl))⟩, List.forall_mem_cons.mpr ⟨⟨_, _, _, rfl, by decide, rfl, hw _ (wi_X10_0 _ (List.mem_of_getElem? (i := 25) rfl))⟩, List.forall_mem_cons.mpr ⟨⟨_, _, _, rfl, by decide, rfl, hw _ (wi_X10_0 _ (List.mem_of_getElem? (i := 5) rfl))⟩, List.forall_mem_cons.mpr ⟨⟨_, _, _, rfl, by decide, rfl, hw _ (wi_X10_0 _ (List.mem_of_getElem? (i := 9) rfl))⟩, List.forall_mem_cons.mpr ⟨⟨_, _, _, rfl, by decide, rfl, hw _ (wi_X10_0 _ (List.mem_of_getElem? (i := 10) rfl))⟩, List.forall_mem_cons.mpr ⟨⟨_, _, _, rfl, by decide, rfl, hw _ (wi_X10_0 _ (List.mem_of_getElem? (i := 11) rfl))⟩, List.forall_mem_cons.mpr ⟨⟨_, _, _, rfl, by decide, rfl, hw _ (wi_X10_1 _ (List.mem_of_getElem? (i := 3) rfl))⟩, List.forall_mem_cons.mpr ⟨⟨_, _, _, rfl, by decide, rfl, hw _ (wi_X10_1 _ (List.mem_of_getElem? (i := 11) rfl))⟩, List.forall_mem_cons.mpr ⟨⟨_, _, _, rfl, by decide, rfl, hw _ (wi_X10_1 _ (List.mem_of_getElem? (i := 12) rfl))⟩, List.forall_mem_cons.mpr ⟨⟨_, _, _, rfl, by decide, rfl, hw _ (wi_X10_1 _ (List.mem_of_getElem? (i := 2) rfl))⟩, List.forall_mem_cons.mpr ⟨⟨_, _, _, rfl, by decide, rfl, hw _ (wi_X10_1 _ (List.mem_of_getElem? (i := 4) rfl))⟩, List.forall_mem_cons.mpr ⟨⟨_, _, _, rfl, by decide, rfl, hw _ (wi_X10_1 _ (List.mem_of_getElem? (i := 5) rfl))⟩, List.forall_mem_cons.mpr ⟨⟨_, _, _, rfl, by decide, rfl, hw _ (wi_X10_1 _ (List.mem_of_getElem? (i := 7) rfl))⟩, List.forall_mem_cons.mpr ⟨⟨_, _, _, rfl, by decide, rfl, hw _ (wi_X10_1 _ (List.mem_of_getElem? (i := 6) rfl))⟩, List.forall_mem_cons.mpr ⟨⟨_, _, _, rfl, by decide, rfl, hw _ (wi_X10_1 _ (List.mem_of_getElem? (i := 15) rfl))⟩, List.forall_mem_cons.mpr ⟨⟨_, _, _, rfl, by decide, rfl, hw _ (wi_X10_1 _ (List.mem_of_getElem? (i := 8) rfl))⟩, List.forall_mem_cons.mpr ⟨⟨_, _, _, rfl, by decide, rfl, hw _ (wi_X10_1 _ (List.mem_of_getElem? (i := 9) rfl))⟩, List.forall_mem_cons.mpr ⟨⟨_, _, _, rfl, by decide, rfl, hw _ (wi_X10_0 _ (List.mem_of_getElem? (i := 13) rfl))⟩, List.forall_mem_cons.mpr ⟨⟨_, _, _, rfl, by decide, rfl, hw _ (wi_X10_0 _ (List.mem_of_getElem? (i := 14) rfl))⟩, List.forall_mem_cons.mpr ⟨⟨_, _, _, rfl, by decide, rfl, hw _ (wi_X10_0 _ (List.mem_of_getElem? (i := 15) rfl))⟩, List.forall_mem_cons.mpr ⟨⟨_, _, _, rfl, by decide, rfl, hw _ (wi_X10_0 _ (List.mem_of_getElem? (i := 16) rfl))⟩, List.forall_mem_cons.mpr ⟨⟨_, _, _, rfl, by decide, rfl, hw _ (wi_X10_1 _ (List.mem_of_getElem? (i := 21) rfl))⟩, List.forall_mem_cons.mpr ⟨⟨_, _, _, rfl, by decide, rfl, hw _ (wi_X10_0 _ (List.mem_of_getElem? (i := 18) rfl))⟩, List.forall_mem_cons.mpr ⟨⟨_, _, _, rfl, by decide, rfl, hw _ (wi_X10_0 _ (List.mem_of_getElem? (i := 19) rfl))⟩, List.forall_mem_cons.mpr ⟨⟨_, _, _, rfl, by decide, rfl, hw _ (wi_X10_0 _ (List.mem_of_getElem? (i := 28) rfl))⟩, List.forall_mem_cons.mpr ⟨⟨_, _, _, rfl, by decide, rfl, hw _ (wi_X10_0 _ (List.mem_of_getElem? (i := 27) rfl))⟩, List.forall_mem_cons.mpr ⟨⟨_, _, _, rfl, by decide, rfl, hw _ (wi_X10_0 _ (List.mem_of_getElem? (i := 21) rfl))⟩, List.forall_mem_cons.mpr ⟨⟨_, _, _, rfl, by decide, rfl, hw _ (wi_X10_0 _ (List.mem_of_getElem? (i := 24) rfl))⟩, List.forall_mem_cons.mpr ⟨⟨_, _, _, rfl, by decide, rfl, hw _ (wi_X10_0 _ (List.mem_of_getElem? (i := 22) rfl))⟩, List.forall_mem_cons.mpr ⟨⟨_, _, _, rfl, by decide, rfl, hw _ (wi_X10_0 _ (List.mem_of_getElem? (i := 23) rfl))⟩, List.forall_mem_cons.mpr ⟨⟨_, _, _, rfl, by decide, rfl, hw _ (wi_X10_0 _ (List.mem_of_getElem? (i := 6) rfl))⟩, List.forall_mem_cons.mpr ⟨⟨_, _, _, rfl, by decide, rfl, hw _ (wi_X10_0 _ (List.mem_of_getElem? (i := 2) rfl))⟩, List.forall_mem_cons.mpr ⟨⟨_, _, _, rfl, by decide, rfl, hw _ (wi_X10_0 _ (List.mem_of_getElem? (i := 29) rfl))⟩, (fun _ h => absurd h List.not_mem_nil)⟩⟩⟩⟩⟩⟩⟩⟩⟩⟩⟩⟩⟩⟩⟩⟩⟩⟩⟩⟩⟩⟩⟩⟩⟩⟩⟩⟩⟩⟩⟩⟩⟩⟩⟩⟩⟩⟩⟩⟩⟩⟩⟩⟩
  have h2 : rf_NLok RX10 nm_cl cn_X10 args s := List.forall_mem_cons.mpr ⟨⟨_, _, _, rfl, hw _ (wi_X10_0 _ (List.mem_of_getElem? (i := 1) rfl)), hw _ (wi_X10_4 _ (List.mem_of_getElem? (i := 1) rfl)), hw _ (wi_X10_4 _ (List.mem_of_getElem? (i := 2) rfl))⟩, List.forall_mem_cons.mpr ⟨⟨_, _, _, rfl, hw _ (wi_X10_0 _ (List.mem_of_getElem? (i := 3) rfl)), hw _ (wi_X10_4 _ (List.mem_of_getElem? (i := 3) rfl)), hw _ (wi_X10_4 _ (List.mem_of_getElem? (i := 4) rfl))⟩, List.forall_mem_cons.mpr ⟨⟨_, _, _, rfl, hw _ (wi_X10_0 _ (List.mem_of_getElem? (i := 7) rfl)), hw _ (wi_X10_4 _ (List.mem_of_getElem? (i := 5) rfl)), hw _ (wi_X10_4 _ (List.mem_of_getElem? (i := 6) rfl))⟩, List.forall_mem_cons.mpr ⟨⟨_, _, _, rfl, hw _ (wi_X10_0 _ (List.mem_of_getElem? (i := 12) rfl)), hw _ (wi_X10_4 _ (List.mem_of_getElem? (i := 7) rfl)), hw _ (wi_X10_4 _ (List.mem_of_getElem? (i := 8) rfl))⟩, List.forall_mem_cons.mpr ⟨⟨_, _, _, rfl, hw _ (wi_X10_0 _ (List.mem_of_getElem? (i := 17) rfl)), hw _ (wi_X10_4 _ (List.mem_of_getElem? (i := 9) rfl)), hw _ (wi_X10_4 _ (List.mem_of_getElem? (i := 10) rfl))⟩, List.forall_mem_cons.mpr ⟨⟨_, _, _, rfl, hw _ (wi_X10_0 _ (List.mem_of_getElem? (i := 20) rfl)), hw _ (wi_X10_4 _ (List.mem_of_getElem? (i := 11) rfl)), hw _ (wi_X10_4 _ (List.mem_of_getElem? (i := 12) rfl))⟩, List.forall_mem_cons.mpr ⟨⟨_, _, _, rfl, hw _ (wi_X10_0 _ (List.mem_of_getElem? (i := 26) rfl)), hw _ (wi_X10_4 _ (List.mem_of_getElem? (i := 13) rfl)), hw _ (wi_X10_4 _ (List.mem_of_getElem? (i := 14) rfl))⟩, List.forall_mem_cons.mpr ⟨⟨_, _, _, rfl, hw _ (wi_X10_1 _ (List.mem_of_getElem? (i := 0) rfl)), hw _ (wi_X10_4 _ (List.mem_of_getElem? (i := 15) rfl)), hw _ (wi_X10_4 _ (List.mem_of_getElem? (i := 16) rfl))⟩, List.forall_mem_cons.mpr ⟨⟨_, _, _, rfl, hw _ (wi_X10_1 _ (List.mem_of_getElem? (i := 10) rfl)), hw _ (wi_X10_4 _ (List.mem_of_getElem? (i := 17) rfl)), hw _ (wi_X10_4 _ (List.mem_of_getElem? (i := 18) rfl))⟩, List.forall_mem_cons.mpr ⟨⟨_, _, _, rfl, hw _ (wi_X10_1 _ (List.mem_of_getElem? (i := 13) rfl)), hw _ (wi_X10_4 _ (List.mem_of_getElem? (i := 19) rfl)), hw _ (wi_X10_4 _ (List.mem_of_getElem? (i := 20) rfl))⟩, (fun _ h => absurd h List.not_mem_nil)⟩⟩⟩⟩⟩⟩⟩⟩⟩⟩
  have h3 : rf_SLok RX10 cs_X10 xt A args s := (fun _ h => absurd h List.not_mem_nil)
  have h4 : ∀ q ∈ ck_X10, rf_LD p l e R s m args below meth c cc xt A s.heap q := List.forall_mem_cons.mpr ⟨cx_li hx hb hown (hw _ (wi_X10_2 _ (List.mem_of_getElem? (i := 21) rfl))) (by decide), List.forall_mem_cons.mpr ⟨cx_lw hx hb hown (hw _ (wi_X10_2 _ (List.mem_of_getElem? (i := 21) rfl))) (by decide), List.forall_mem_cons.mpr ⟨cx_l2 hx hb hown (hw _ (wi_X10_2 _ (List.mem_of_getElem? (i := 27) rfl))) (by decide), (fun _ h => absurd h List.not_mem_nil)⟩⟩⟩
  have h5 : ∀ i ∈ ca_X10, (Cond.classLink RX10 i "LeftAsFound$Shelf").before args s = true := List.forall_mem_cons.mpr ⟨hw _ (wi_X10_0 _ (List.mem_of_getElem? (i := 20) rfl)), (fun _ h => absurd h List.not_mem_nil)⟩
  have h6 : ∀ t : ArrayType, rf_akd t ≤ 3 → (Cond.arrayClass (newarray.typeOf t)).before args s = true := by
    intro t ht
    cases t <;> first | exact hw _ (wi_X10_11 _ (List.mem_of_getElem? (i := 8) rfl)) | exact hw _ (wi_X10_11 _ (List.mem_of_getElem? (i := 9) rfl)) | exact hw _ (wi_X10_11 _ (List.mem_of_getElem? (i := 10) rfl)) | exact hw _ (wi_X10_11 _ (List.mem_of_getElem? (i := 11) rfl)) | exact absurd ht (by decide)
  exact ⟨⟨hx, hb, hml, hown, hw, en_CL⟩, ⟨hK, hTY, hA, rfl⟩, ⟨h1, h2, h3, h4, hML, h5⟩, ⟨hN.1, hN.2.2.2.1, h6, en_Nok xt, hN⟩, hR, ⟨fun C hC => by cases hC; rfl, hin, ⟨_, _, rfl⟩, fun h => absurd (show (10 : Nat) = 98 from h) (by decide)⟩⟩
def cf_X11 : List (Nat × Nat × Nat) := [(9, 11, 1), (15, 11, 2), (18, 11, 4), (21, 11, 5), (24, 11, 6), (27, 11, 7), (30, 11, 8), (34, 11, 9), (37, 11, 10), (40, 11, 11), (43, 11, 14), (46, 11, 15), (49, 11, 16), (52, 11, 17), (55, 11, 18), (59, 11, 24), (62, 11, 25), (65, 11, 26), (68, 11, 27), (72, 11, 28), (75, 11, 29), (78, 11, 30), (81, 11, 32), (84, 11, 33), (87, 11, 34), (90, 11, 35), (93, 11, 37), (96, 11, 38), (99, 11, 39), (102, 11, 40), (105, 11, 42), (108, 11, 43), (111, 11, 45), (114, 11, 48), (117, 11, 50), (120, 11, 51), (123, 11, 53), (126, 11, 55), (129, 11, 56), (132, 11, 57), (135, 11, 58), (139, 11, 59), (149, 11, 3), (176, 11, 13), (179, 11, 12), (199, 11, 19), (202, 11, 20), (205, 11, 21), (208, 11, 23), (211, 11, 22), (265, 11, 31), (285, 11, 36), (326, 11, 41), (340, 11, 44), (343, 11, 46), (346, 11, 47), (360, 11, 49), (363, 11, 52), (366, 11, 54)]
def cn_X11 : List (Nat × Nat) := []
def cs_X11 : List (Nat × rf_AV) := []
def ck_X11 : List (Nat × Nat × rf_AV) := [(0, 319, (0, 0, Int.negSucc 1999999999)), (0, 359, (0, 0, Int.ofNat 1103515245)), (1, 319, (0, 0, Int.negSucc 1999999999)), (1, 359, (0, 0, Int.ofNat 1103515245)), (2, 166, (1, 0, Int.ofNat 2)), (2, 332, (1, 0, Int.negSucc 9223372036854775807)), (2, 334, (1, 0, Int.ofNat 12))]
def ca_X11 : List Nat := []
theorem cx_X11 {p : Program} {l : Launch} {e : Env} {R : Room} {s : State} {m : MethodId} {args : Array Value} {below : List Frame} {meth : Method} {c : Code} {cc : ByteArray} {D : va_G} {tys : List (ClassId × FieldType)} {xt : Nat → Nat} {A : Nat → Prop} {c0 : Cond} {ML : List (Nat × Nat × Nat × List rf_SP)} {ini df : Bool} {nL RF RC RS RL : Nat} (hTY : rf_TY tys "LeftAsFound$Shelf") (hx : p.tables.exec = Jvm.exec) (hb : c.code = cc) (hml : c.maxLocals = nL) (hown : s.vm.findClass RX11 = some m.cls) (hts : ∀ w ∈ c0 :: en_G, w.before args s = true) (hK : va_K D nm_cl tys s) (hN : en_N xt A s) (hA : ∀ q, s.heap.size ≤ q → A q) (hin : ini = true → meth.name = "<init>") (hML : ∀ q ∈ ML, rf_MLok p l e R s m args below meth c cc nL RX11 D nm_cl tys xt (en_N xt) en_G q) (hR : RF ≤ R.frames ∧ RC ≤ R.cells ∧ RS ≤ R.slots ∧ RL ≤ R.locals) :
    rf_CT p l e R s m args below meth c cc RX11 D nm_cl nm_ct tys xt en_xs (en_N xt) en_G en_G "LeftAsFound$Shelf" 8 A s.heap (cf_X11, cn_X11, cs_X11, ck_X11, ML, ca_X11, (11, ini, df), (nL, RF, RC, RS, RL)) := by
  have hw : ∀ w ∈ en_G, w.before args s = true := fun w h => hts w (List.mem_cons_of_mem _ h)
  have h1 : rf_FLok RX11 nm_cl cf_X11 args s := List.forall_mem_cons.mpr ⟨⟨_, _, _, rfl, by decide, rfl, hw _ (wi_X11_0 _ (List.mem_of_getElem? (i := 1) rfl))⟩, List.forall_mem_cons.mpr ⟨⟨_, _, _, rfl, by decide, rfl, hw _ (wi_X11_0 _ (List.mem_of_getElem? (i := 2) rfl))⟩, List.forall_mem_cons.mpr ⟨⟨_, _, _, rfl, by decide, rfl, hw _ (wi_X11_0 _ (List.mem_of_getElem? (i := 4) rfl))⟩, List.forall_mem_cons.mpr ⟨⟨_, _, _, rfl, by decide, rfl, hw _ (wi_X11_0 _ (List.mem_of_getElem? (i := 5) rfl))⟩, List.forall_mem_cons.mpr ⟨⟨_, _, _, rfl, by decide, rfl, hw _ (wi_X11_0 _ (List.mem_of_getElem? (i := 6) rfl))⟩, List.forall_mem_cons.mpr ⟨⟨_, _, _, rfl, by decide, rfl, hw _ (wi_X11_0 _ (List.mem_of_getElem? (i := 7) rfl))⟩, List.forall_mem_cons.mpr ⟨⟨_, _, _, rfl, by decide, rfl, hw _ (wi_X11_0 _ (List.mem_of_getElem? (i := 8) rfl))⟩, List.forall_mem_cons.mpr ⟨⟨_, _, _, rfl, by decide, rfl, hw _ (wi_X11_0 _ (List.mem_of_getElem? (i := 9) rfl))⟩, List.forall_mem_cons.mpr ⟨⟨_, _, _, rfl, by decide, rfl, hw _ (wi_X11_0 _ (List.mem_of_getElem? (i := 10) rfl))⟩, List.forall_mem_cons.mpr ⟨⟨_, _, _, rfl, by decide, rfl, hw _ (wi_X11_0 _ (List.mem_of_getElem? (i := 11) rfl))⟩, List.forall_mem_cons.mpr ⟨⟨_, _, _, rfl, by decide, rfl, hw _ (wi_X11_0 _ (List.mem_of_getElem? (i := 14) rfl))⟩, List.forall_mem_cons.mpr ⟨⟨_, _, _, rfl, by decide, rfl, hw _ (wi_X11_0 _ (List.mem_of_getElem? (i := 15) rfl))⟩, List.forall_mem_cons.mpr ⟨⟨_, _, _, rfl, by decide, rfl, hw _ (wi_X11_0 _ (List.mem_of_getElem? (i := 16) rfl))⟩, List.forall_mem_cons.mpr ⟨⟨_, _, _, rfl, by decide, rfl, hw _ (wi_X11_0 _ (List.mem_of_getElem? (i := 17) rfl))⟩, List.forall_mem_cons.mpr ⟨⟨_, _, _, rfl, by decide, rfl, hw _ (wi_X11_0 _ (List.mem_of_getElem? (i := 18) rfl))⟩, List.forall_mem_cons.mpr ⟨⟨_, _, _, rfl, by decide, rfl, hw _ (wi_X11_0 _ (List.mem_of_getElem? (i := 24) rfl))⟩, List.forall_mem_cons.mpr ⟨⟨_, _, _, rfl, by decide, rfl, hw _ (wi_X11_0 _ (List.mem_of_getElem? (i := 25) rfl))⟩, List.forall_mem_cons.mpr ⟨⟨_, _, _, rfl, by decide, rfl, hw _ (wi_X11_0 _ (List.mem_of_getElem? (i := 26) rfl))⟩, List.forall_mem_cons.mpr ⟨⟨_, _, _, rfl, by decide, rfl, hw _ (wi_X11_0 _ (List.mem_of_getElem? (i := 27) rfl))⟩, List.forall_mem_cons.mpr ⟨⟨_, _, _, rfl, by decide, rfl, hw _ (wi_X11_0 _ (List.mem_of_getElem? (i := 28) rfl))⟩, List.forall_mem_cons.mpr ⟨⟨_, _, _, rfl, by decide, rfl, hw _ (wi_X11_0 _ (List.mem_of_getElem? (i := 29) rfl))⟩, List.forall_mem_cons.mpr ⟨⟨_, _, _, rfl, by decide, rfl, hw _ (wi_X11_1 _ (List.mem_of_getElem? (i := 0) rfl))⟩, List.forall_mem_cons.mpr ⟨⟨_, _, _, rfl, by decide, rfl, hw _ (wi_X11_1 _ (List.mem_of_getElem? (i := 2) rfl))⟩, List.forall_mem_cons.mpr ⟨⟨_, _, _, rfl, by decide, rfl, hw _ (wi_X11_1 _ (List.mem_of_getElem? (i := 3) rfl))⟩, List.forall_mem_cons.mpr ⟨⟨_, _, _, rfl, by decide, rfl, hw _ (wi_X11_1 _ (List.mem_of_getElem? (i := 4) rfl))⟩, List.forall_mem_cons.mpr ⟨⟨_, _, _, rfl, by decide, rfl, hw _ (wi_X11_1 _ (List.mem_of_getElem? (i := 5) rfl))⟩, List.forall_mem_cons.mpr ⟨⟨_, _, _, rfl, by decide, rfl, hw _ (wi_X11_1 _ (List.mem_of_getElem? (i := 7) rfl))⟩, List.forall_mem_cons.mpr ⟨⟨_, _, _, rfl, by decide, rfl, hw _ (wi_X11_1 _ (List.mem_of_getElem? (i := 8) rfl))⟩, List.forall_mem_cons.mpr ⟨⟨_, _, _, rfl, by decide, rfl, hw _ (wi_X11_1 _ (List.mem_of_getElem? (i := 9) rfl))⟩, List.forall_mem_cons.mpr ⟨⟨_, _, _, rfl, by decide, rfl, hw _ (wi_X11_1 _ (List.mem_of_getElem? (i := 10) rfl))⟩, List.forall_mem_cons.mpr ⟨⟨_, _, _, rfl, by decide, rfl, hw _ (wi_X11_1 _ (List.mem_of_getElem? (i := 12) rfl))⟩, List.forall_mem_cons.mpr ⟨⟨_, _, _, rfl, by decide, rfl, hw _ (wi_X11_1 _ (List.mem_of_getElem? (i := 13) rfl))⟩, List.forall_mem_cons.mpr ⟨⟨_, _, _, rfl, by decide, rfl, hw _ (wi_X11_1 _ (List.mem_of_getElem? (i := 15) rfl))⟩, List.forall_mem_cons.mpr ⟨⟨_, _, _, rfl, by decide, rfl, hw _ (wi_X11_1 _ (List.mem_of_getElem? (i := 18) rfl))⟩, List.forall_mem_cons.mpr ⟨⟨_, _, _, rfl, by decide, rfl, hw _ (wi_X11_1 _ (List.mem_of_getElem? (i := 20) rfl))⟩, List.forall_mem_cons.mpr ⟨⟨_, _, _, rfl, by decide, rfl, hw _ (wi_X11_1 _ (List.mem_of_getElem? (i := 21) rfl))⟩, List.forall_mem_cons.mpr ⟨⟨_, _, _, rfl, by decide, rfl, hw _ (wi_X11_1 _ (List.mem_of_getElem? (i := 23) rfl))⟩, List.forall_mem_cons.mpr ⟨⟨_, _, _, rfl, by decide, rfl, hw _ (wi_X11_1 _ (List.mem_of_getElem? (i := 25) rfl))⟩, List.forall_mem_cons.mpr ⟨⟨_, _, _, rfl, by decide, rfl, hw _ (wi_X11_1 _ (List.mem_of_getElem? (i := 26) rfl))⟩, List.forall_mem_cons.mpr ⟨⟨_, _, _, rfl, by decide, rfl, hw _ (wi_X11_1 _ (List.mem_of_getElem? (i := 27) rfl))⟩, List.forall_mem_cons.mpr ⟨⟨_, _, _, rfl, by decide, rfl, hw _ (wi_X11_1 _ (List.mem_of_getElem? (i := 28) rfl))⟩, List.forall_mem_cons.mpr ⟨⟨_, _, _, rfl, by decide, rfl, hw _ (wi_X11_1 _ (List.mem_of_getElem? (i := 29) rfl))⟩, List.forall_mem_cons.mpr ⟨⟨_, _, _, rfl, by decide, rfl, hw _ (wi_X11_0 _ (List.mem_of_getElem? (i := 3) rfl))⟩, List.forall_mem_cons.mpr ⟨⟨_, _, _, rfl, by decide, rfl, hw _ (wi_X11_0 _ (List.mem_of_getElem? (i := 13) rfl))⟩, List.forall_mem_cons.mpr ⟨⟨_, _, _, rfl, by decide, rfl, hw _ (wi_X11_0 _ (List.mem_of_getElem? (i := 12) rfl))⟩, List.forall_mem_cons.mpr ⟨⟨_, _, _, rfl, by decide, rfl, hw _ (wi_X11_0 _ (List.mem_of_getElem? (i := 19) rfl))⟩, List.forall_mem_cons.mpr ⟨⟨_, _, _, rfl, by decide, rfl, hw _ (wi_X11_0 _ (List.mem_of_getElem? (i := 20) rfl))⟩, List.forall_mem_cons.mpr ⟨⟨_, _, _, rfl, by decide, rfl, hw _ (wi_X11_0 _ (List.mem_of_getElem? (i := 21) rfl))⟩, List.forall_mem_cons.mpr ⟨⟨_, _, _, rfl, by decide, rfl, hw _ (wi_X11_0 _ (List.mem_of_getElem? (i := 23) rfl))⟩, List.forall_mem_cons.mpr ⟨⟨_, _, _, rfl, by decide, rfl, hw _ (wi_X11_0 _ (List.mem_of_getElem? (i := 22) rfl))⟩, List.forall_mem_cons.mpr ⟨⟨_, _, _, rfl, by decide, rfl, hw _ (wi_X11_1 _ (List.mem_of_getElem? (i := 1) rfl))⟩, List.forall_mem_cons.mpr ⟨⟨_, _, _, rfl, by decide, rfl, hw _ (wi_X11_1 _ (List.mem_of_getElem? (i := 6) rfl))⟩, List.forall_mem_cons.mpr ⟨⟨_, _, _, rfl, by decide, rfl, hw _ (wi_X11_1 _ (List.mem_of_getElem? (i := 11) rfl))⟩, List.forall_mem_cons.mpr ⟨⟨_, _, _, rfl, by decide, rfl, hw _ (wi_X11_1 _ (List.mem_of_getElem? (i := 14) rfl))⟩, List.forall_mem_cons.mpr ⟨⟨_, _, _, rfl, by decide, rfl, hw _ (wi_X11_1 _ (List.mem_of_getElem? (i := 16) rfl))⟩, List.forall_mem_cons.mpr ⟨⟨_, _, _, rfl, by decide, rfl, hw _ (wi_X11_1 _ (List.mem_of_getElem? (i := 17) rfl))⟩, List.forall_mem_cons.mpr ⟨⟨_, _, _, rfl, by decide, rfl, hw _ (wi_X11_1 _ (List.mem_of_getElem? (i := 19) rfl))⟩, List.forall_mem_cons.mpr ⟨⟨_, _, _, rfl, by decide, rfl, hw _ (wi_X11_1 _ (List.mem_of_getElem? (i := 22) rfl))⟩, List.forall_mem_cons.mpr ⟨⟨_, _, _, rfl, by decide, rfl, hw _ (wi_X11_1 _ (List.mem_of_getElem? (i := 24) rfl))⟩, (fun _ h => absurd h List.not_mem_nil)⟩⟩⟩⟩⟩⟩⟩⟩⟩⟩⟩⟩⟩⟩⟩⟩⟩⟩⟩⟩⟩⟩⟩⟩⟩⟩⟩⟩⟩⟩⟩⟩⟩⟩⟩⟩⟩⟩⟩⟩⟩⟩⟩⟩⟩⟩⟩⟩⟩⟩⟩⟩⟩⟩⟩⟩⟩⟩⟩
  have h2 : rf_NLok RX11 nm_cl cn_X11 args s := (fun _ h => absurd h List.not_mem_nil)
  have h3 : rf_SLok RX11 cs_X11 xt A args s := (fun _ h => absurd h List.not_mem_nil)
  have h4 : ∀ q ∈ ck_X11, rf_LD p l e R s m args below meth c cc xt A s.heap q := List.forall_mem_cons.mpr ⟨cx_li hx hb hown (hw _ (wi_X11_3 _ (List.mem_of_getElem? (i := 14) rfl))) (by decide), List.forall_mem_cons.mpr ⟨cx_li hx hb hown (hw _ (wi_X11_3 _ (List.mem_of_getElem? (i := 24) rfl))) (by decide), List.forall_mem_cons.mpr ⟨cx_lw hx hb hown (hw _ (wi_X11_3 _ (List.mem_of_getElem? (i := 14) rfl))) (by decide), List.forall_mem_cons.mpr ⟨cx_lw hx hb hown (hw _ (wi_X11_3 _ (List.mem_of_getElem? (i := 24) rfl))) (by decide), List.forall_mem_cons.mpr ⟨cx_l2 hx hb hown (hw _ (wi_X11_2 _ (List.mem_of_getElem? (i := 3) rfl))) (by decide), List.forall_mem_cons.mpr ⟨cx_l2 hx hb hown (hw _ (wi_X11_3 _ (List.mem_of_getElem? (i := 18) rfl))) (by decide), List.forall_mem_cons.mpr ⟨cx_l2 hx hb hown (hw _ (wi_X11_3 _ (List.mem_of_getElem? (i := 19) rfl))) (by decide), (fun _ h => absurd h List.not_mem_nil)⟩⟩⟩⟩⟩⟩⟩
  have h5 : ∀ i ∈ ca_X11, (Cond.classLink RX11 i "LeftAsFound$Shelf").before args s = true := (fun _ h => absurd h List.not_mem_nil)
  have h6 : ∀ t : ArrayType, rf_akd t ≤ 3 → (Cond.arrayClass (newarray.typeOf t)).before args s = true := by
    intro t ht
    cases t <;> first | exact hw _ (wi_X11_10 _ (List.mem_of_getElem? (i := 23) rfl)) | exact hw _ (wi_X11_10 _ (List.mem_of_getElem? (i := 24) rfl)) | exact hw _ (wi_X11_10 _ (List.mem_of_getElem? (i := 25) rfl)) | exact hw _ (wi_X11_10 _ (List.mem_of_getElem? (i := 26) rfl)) | exact absurd ht (by decide)
  exact ⟨⟨hx, hb, hml, hown, hw, en_CL⟩, ⟨hK, hTY, hA, rfl⟩, ⟨h1, h2, h3, h4, hML, h5⟩, ⟨hN.1, hN.2.2.2.1, h6, en_Nok xt, hN⟩, hR, ⟨fun C hC => by cases hC; rfl, hin, ⟨_, _, rfl⟩, fun h => absurd (show (11 : Nat) = 98 from h) (by decide)⟩⟩
theorem yk_X0_init : en_y yX0_init 0 := ⟨by decide, by decide, by decide +kernel⟩
theorem yp_X0_init : plainName yX0_init.cls = true := by decide +kernel
theorem yk_X0_isFull : en_y yX0_isFull 0 := ⟨by decide, by decide, by decide +kernel⟩
theorem yp_X0_isFull : plainName yX0_isFull.cls = true := by decide +kernel
theorem yk_X0_add : en_y yX0_add 1 := ⟨by decide, by decide, by decide +kernel⟩
theorem yp_X0_add : plainName yX0_add.cls = true := by decide +kernel
theorem yk_X0_kindOf : en_y yX0_kindOf 1 := ⟨by decide, by decide, by decide +kernel⟩
theorem yp_X0_kindOf : plainName yX0_kindOf.cls = true := by decide +kernel
theorem yk_X0_isUnder : en_y yX0_isUnder 2 := ⟨by decide, by decide, by decide +kernel⟩
theorem yp_X0_isUnder : plainName yX0_isUnder.cls = true := by decide +kernel
theorem yk_X0_traced : en_y yX0_traced 0 := ⟨by decide, by decide, by decide +kernel⟩
theorem yp_X0_traced : plainName yX0_traced.cls = true := by decide +kernel
theorem yk_X0_perform : en_y yX0_perform 3 := ⟨by decide, by decide, by decide +kernel⟩
theorem yp_X0_perform : plainName yX0_perform.cls = true := by decide +kernel
theorem yk_X0_run : en_y yX0_run 4 := ⟨by decide, by decide, by decide +kernel⟩
theorem yp_X0_run : plainName yX0_run.cls = true := by decide +kernel
theorem yk_X0_answer : en_y yX0_answer 4 := ⟨by decide, by decide, by decide +kernel⟩
theorem yp_X0_answer : plainName yX0_answer.cls = true := by decide +kernel
theorem yk_X1_init : en_y yX1_init 0 := ⟨by decide, by decide, by decide +kernel⟩
theorem yp_X1_init : plainName yX1_init.cls = true := by decide +kernel
theorem yk_X1_add : en_y yX1_add 3 := ⟨by decide, by decide, by decide +kernel⟩
theorem yp_X1_add : plainName yX1_add.cls = true := by decide +kernel
theorem yk_X1_dropOldest : en_y yX1_dropOldest 0 := ⟨by decide, by decide, by decide +kernel⟩
theorem yp_X1_dropOldest : plainName yX1_dropOldest.cls = true := by decide +kernel
theorem yk_X1_takeBack : en_y yX1_takeBack 1 := ⟨by decide, by decide, by decide +kernel⟩
theorem yp_X1_takeBack : plainName yX1_takeBack.cls = true := by decide +kernel
theorem yk_X1_doAgain : en_y yX1_doAgain 1 := ⟨by decide, by decide, by decide +kernel⟩
theorem yp_X1_doAgain : plainName yX1_doAgain.cls = true := by decide +kernel
theorem yk_X2_init : en_y yX2_init 1 := ⟨by decide, by decide, by decide +kernel⟩
theorem yp_X2_init : plainName yX2_init.cls = true := by decide +kernel
theorem yk_X2_top : en_y yX2_top 1 := ⟨by decide, by decide, by decide +kernel⟩
theorem yp_X2_top : plainName yX2_top.cls = true := by decide +kernel
theorem yk_X2_placeOf : en_y yX2_placeOf 2 := ⟨by decide, by decide, by decide +kernel⟩
theorem yp_X2_placeOf : plainName yX2_placeOf.cls = true := by decide +kernel
theorem yk_X2_pairOf : en_y yX2_pairOf 1 := ⟨by decide, by decide, by decide +kernel⟩
theorem yp_X2_pairOf : plainName yX2_pairOf.cls = true := by decide +kernel
theorem yk_X2_hasGuest : en_y yX2_hasGuest 1 := ⟨by decide, by decide, by decide +kernel⟩
theorem yp_X2_hasGuest : plainName yX2_hasGuest.cls = true := by decide +kernel
theorem yk_X2_isFull : en_y yX2_isFull 0 := ⟨by decide, by decide, by decide +kernel⟩
theorem yp_X2_isFull : plainName yX2_isFull.cls = true := by decide +kernel
theorem yk_X2_welcome : en_y yX2_welcome 3 := ⟨by decide, by decide, by decide +kernel⟩
theorem yp_X2_welcome : plainName yX2_welcome.cls = true := by decide +kernel
theorem yk_X2_ought : en_y yX2_ought 1 := ⟨by decide, by decide, by decide +kernel⟩
theorem yp_X2_ought : plainName yX2_ought.cls = true := by decide +kernel
theorem yk_X2_worth : en_y yX2_worth 1 := ⟨by decide, by decide, by decide +kernel⟩
theorem yp_X2_worth : plainName yX2_worth.cls = true := by decide +kernel
theorem yk_X2_believes : en_y yX2_believes 1 := ⟨by decide, by decide, by decide +kernel⟩
theorem yp_X2_believes : plainName yX2_believes.cls = true := by decide +kernel
theorem yk_X2_price : en_y yX2_price 0 := ⟨by decide, by decide, by decide +kernel⟩
theorem yp_X2_price : plainName yX2_price.cls = true := by decide +kernel
theorem yk_X2_honest : en_y yX2_honest 0 := ⟨by decide, by decide, by decide +kernel⟩
theorem yp_X2_honest : plainName yX2_honest.cls = true := by decide +kernel
theorem yk_X2_lack : en_y yX2_lack 2 := ⟨by decide, by decide, by decide +kernel⟩
theorem yp_X2_lack : plainName yX2_lack.cls = true := by decide +kernel
theorem yk_X2_believed : en_y yX2_believed 5 := ⟨by decide, by decide, by decide +kernel⟩
theorem yp_X2_believed : plainName yX2_believed.cls = true := by decide +kernel
theorem yk_X2_writesBook : en_y yX2_writesBook 1 := ⟨by decide, by decide, by decide +kernel⟩
theorem yp_X2_writesBook : plainName yX2_writesBook.cls = true := by decide +kernel
theorem yk_X2_levelAfter : en_y yX2_levelAfter 4 := ⟨by decide, by decide, by decide +kernel⟩
theorem yp_X2_levelAfter : plainName yX2_levelAfter.cls = true := by decide +kernel
theorem yk_X2_held : en_y yX2_held 3 := ⟨by decide, by decide, by decide +kernel⟩
theorem yp_X2_held : plainName yX2_held.cls = true := by decide +kernel
theorem yk_X3_init : en_y yX3_init 0 := ⟨by decide, by decide, by decide +kernel⟩
theorem yp_X3_init : plainName yX3_init.cls = true := by decide +kernel
theorem yk_X3_isTapeFull : en_y yX3_isTapeFull 0 := ⟨by decide, by decide, by decide +kernel⟩
theorem yp_X3_isTapeFull : plainName yX3_isTapeFull.cls = true := by decide +kernel
theorem yk_X3_write : en_y yX3_write 1 := ⟨by decide, by decide, by decide +kernel⟩
theorem yp_X3_write : plainName yX3_write.cls = true := by decide +kernel
theorem yk_X3_enact : en_y yX3_enact 0 := ⟨by decide, by decide, by decide +kernel⟩
theorem yp_X3_enact : plainName yX3_enact.cls = true := by decide +kernel
theorem yk_X3_readLines : en_y yX3_readLines 0 := ⟨by decide, by decide, by decide +kernel⟩
theorem yp_X3_readLines : plainName yX3_readLines.cls = true := by decide +kernel
theorem yk_X3_readLine : en_y yX3_readLine 0 := ⟨by decide, by decide, by decide +kernel⟩
theorem yp_X3_readLine : plainName yX3_readLine.cls = true := by decide +kernel
theorem yk_X3_readLevel : en_y yX3_readLevel 2 := ⟨by decide, by decide, by decide +kernel⟩
theorem yp_X3_readLevel : plainName yX3_readLevel.cls = true := by decide +kernel
theorem yk_X3_passSign : en_y yX3_passSign 1 := ⟨by decide, by decide, by decide +kernel⟩
theorem yp_X3_passSign : plainName yX3_passSign.cls = true := by decide +kernel
theorem yk_X3_readOne : en_y yX3_readOne 1 := ⟨by decide, by decide, by decide +kernel⟩
theorem yp_X3_readOne : plainName yX3_readOne.cls = true := by decide +kernel
theorem yk_X3_readOpened : en_y yX3_readOpened 2 := ⟨by decide, by decide, by decide +kernel⟩
theorem yp_X3_readOpened : plainName yX3_readOpened.cls = true := by decide +kernel
theorem yk_X3_readNumber : en_y yX3_readNumber 0 := ⟨by decide, by decide, by decide +kernel⟩
theorem yp_X3_readNumber : plainName yX3_readNumber.cls = true := by decide +kernel
theorem yk_X3_isDigit : en_y yX3_isDigit 1 := ⟨by decide, by decide, by decide +kernel⟩
theorem yp_X3_isDigit : plainName yX3_isDigit.cls = true := by decide +kernel
theorem yk_X3_passes : en_y yX3_passes 1 := ⟨by decide, by decide, by decide +kernel⟩
theorem yp_X3_passes : plainName yX3_passes.cls = true := by decide +kernel
theorem yk_X3_emit : en_y yX3_emit 2 := ⟨by decide, by decide, by decide +kernel⟩
theorem yp_X3_emit : plainName yX3_emit.cls = true := by decide +kernel
theorem yk_X3_work : en_y yX3_work 6 := ⟨by decide, by decide, by decide +kernel⟩
theorem yp_X3_work : plainName yX3_work.cls = true := by decide +kernel
theorem yk_X3_valueOf : en_y yX3_valueOf 1 := ⟨by decide, by decide, by decide +kernel⟩
theorem yp_X3_valueOf : plainName yX3_valueOf.cls = true := by decide +kernel
theorem yk_X3_ofTwo : en_y yX3_ofTwo 3 := ⟨by decide, by decide, by decide +kernel⟩
theorem yp_X3_ofTwo : plainName yX3_ofTwo.cls = true := by decide +kernel
theorem yk_X4_init : en_y yX4_init 0 := ⟨by decide, by decide, by decide +kernel⟩
theorem yp_X4_init : plainName yX4_init.cls = true := by decide +kernel
theorem yk_X4_enter : en_y yX4_enter 2 := ⟨by decide, by decide, by decide +kernel⟩
theorem yp_X4_enter : plainName yX4_enter.cls = true := by decide +kernel
theorem yk_X4_copy : en_y yX4_copy 1 := ⟨by decide, by decide, by decide +kernel⟩
theorem yp_X4_copy : plainName yX4_copy.cls = true := by decide +kernel
theorem yk_X5_init : en_y yX5_init 0 := ⟨by decide, by decide, by decide +kernel⟩
theorem yp_X5_init : plainName yX5_init.cls = true := by decide +kernel
theorem yk_X5_find : en_y yX5_find 1 := ⟨by decide, by decide, by decide +kernel⟩
theorem yp_X5_find : plainName yX5_find.cls = true := by decide +kernel
theorem yk_X5_keepScene : en_y yX5_keepScene 2 := ⟨by decide, by decide, by decide +kernel⟩
theorem yp_X5_keepScene : plainName yX5_keepScene.cls = true := by decide +kernel
theorem yk_X5_packed : en_y yX5_packed 2 := ⟨by decide, by decide, by decide +kernel⟩
theorem yp_X5_packed : plainName yX5_packed.cls = true := by decide +kernel
theorem yk_X5_areAlike : en_y yX5_areAlike 2 := ⟨by decide, by decide, by decide +kernel⟩
theorem yp_X5_areAlike : plainName yX5_areAlike.cls = true := by decide +kernel
theorem yk_X6_init : en_y yX6_init 0 := ⟨by decide, by decide, by decide +kernel⟩
theorem yp_X6_init : plainName yX6_init.cls = true := by decide +kernel
theorem yk_X6_copy : en_y yX6_copy 1 := ⟨by decide, by decide, by decide +kernel⟩
theorem yp_X6_copy : plainName yX6_copy.cls = true := by decide +kernel
theorem yk_X6_wasThere : en_y yX6_wasThere 1 := ⟨by decide, by decide, by decide +kernel⟩
theorem yp_X6_wasThere : plainName yX6_wasThere.cls = true := by decide +kernel
theorem yk_X6_guestsThere : en_y yX6_guestsThere 0 := ⟨by decide, by decide, by decide +kernel⟩
theorem yp_X6_guestsThere : plainName yX6_guestsThere.cls = true := by decide +kernel
theorem yk_X6_forgetGuest : en_y yX6_forgetGuest 1 := ⟨by decide, by decide, by decide +kernel⟩
theorem yp_X6_forgetGuest : plainName yX6_forgetGuest.cls = true := by decide +kernel
theorem yk_X6_spend : en_y yX6_spend 2 := ⟨by decide, by decide, by decide +kernel⟩
theorem yp_X6_spend : plainName yX6_spend.cls = true := by decide +kernel
theorem yk_X6_lacks : en_y yX6_lacks 1 := ⟨by decide, by decide, by decide +kernel⟩
theorem yp_X6_lacks : plainName yX6_lacks.cls = true := by decide +kernel
theorem yk_X6_becomeAsOught : en_y yX6_becomeAsOught 1 := ⟨by decide, by decide, by decide +kernel⟩
theorem yp_X6_becomeAsOught : plainName yX6_becomeAsOught.cls = true := by decide +kernel
theorem yk_X7_init : en_y yX7_init 1 := ⟨by decide, by decide, by decide +kernel⟩
theorem yp_X7_init : plainName yX7_init.cls = true := by decide +kernel
theorem yk_X7_start : en_y yX7_start 3 := ⟨by decide, by decide, by decide +kernel⟩
theorem yp_X7_start : plainName yX7_start.cls = true := by decide +kernel
theorem yk_X7_countWays : en_y yX7_countWays 0 := ⟨by decide, by decide, by decide +kernel⟩
theorem yp_X7_countWays : plainName yX7_countWays.cls = true := by decide +kernel
theorem yk_X7_mayHaveBeen : en_y yX7_mayHaveBeen 1 := ⟨by decide, by decide, by decide +kernel⟩
theorem yp_X7_mayHaveBeen : plainName yX7_mayHaveBeen.cls = true := by decide +kernel
theorem yk_X7_explore : en_y yX7_explore 1 := ⟨by decide, by decide, by decide +kernel⟩
theorem yp_X7_explore : plainName yX7_explore.cls = true := by decide +kernel
theorem yk_X7_spendNight : en_y yX7_spendNight 1 := ⟨by decide, by decide, by decide +kernel⟩
theorem yp_X7_spendNight : plainName yX7_spendNight.cls = true := by decide +kernel
theorem yk_X7_levelNoted : en_y yX7_levelNoted 3 := ⟨by decide, by decide, by decide +kernel⟩
theorem yp_X7_levelNoted : plainName yX7_levelNoted.cls = true := by decide +kernel
theorem yk_X8_init : en_y yX8_init 0 := ⟨by decide, by decide, by decide +kernel⟩
theorem yp_X8_init : plainName yX8_init.cls = true := by decide +kernel
theorem yk_X8_clear : en_y yX8_clear 0 := ⟨by decide, by decide, by decide +kernel⟩
theorem yp_X8_clear : plainName yX8_clear.cls = true := by decide +kernel
theorem yk_X8_holdBody : en_y yX8_holdBody 1 := ⟨by decide, by decide, by decide +kernel⟩
theorem yp_X8_holdBody : plainName yX8_holdBody.cls = true := by decide +kernel
theorem yk_X8_holdRow : en_y yX8_holdRow 2 := ⟨by decide, by decide, by decide +kernel⟩
theorem yp_X8_holdRow : plainName yX8_holdRow.cls = true := by decide +kernel
theorem yk_X8_refusalOfBytes : en_y yX8_refusalOfBytes 0 := ⟨by decide, by decide, by decide +kernel⟩
theorem yp_X8_refusalOfBytes : plainName yX8_refusalOfBytes.cls = true := by decide +kernel
theorem yk_X8_refusalOfElement : en_y yX8_refusalOfElement 1 := ⟨by decide, by decide, by decide +kernel⟩
theorem yp_X8_refusalOfElement : plainName yX8_refusalOfElement.cls = true := by decide +kernel
theorem yk_X8_numberAt : en_y yX8_numberAt 1 := ⟨by decide, by decide, by decide +kernel⟩
theorem yp_X8_numberAt : plainName yX8_numberAt.cls = true := by decide +kernel
theorem yk_X8_narrowed : en_y yX8_narrowed 2 := ⟨by decide, by decide, by decide +kernel⟩
theorem yp_X8_narrowed : plainName yX8_narrowed.cls = true := by decide +kernel
theorem yk_X9_init : en_y yX9_init 2 := ⟨by decide, by decide, by decide +kernel⟩
theorem yp_X9_init : plainName yX9_init.cls = true := by decide +kernel
theorem yk_X9_open : en_y yX9_open 1 := ⟨by decide, by decide, by decide +kernel⟩
theorem yp_X9_open : plainName yX9_open.cls = true := by decide +kernel
theorem yk_X9_start : en_y yX9_start 0 := ⟨by decide, by decide, by decide +kernel⟩
theorem yp_X9_start : plainName yX9_start.cls = true := by decide +kernel
theorem yk_X9_spendRow : en_y yX9_spendRow 0 := ⟨by decide, by decide, by decide +kernel⟩
theorem yp_X9_spendRow : plainName yX9_spendRow.cls = true := by decide +kernel
theorem yk_X9_guestAgain : en_y yX9_guestAgain 1 := ⟨by decide, by decide, by decide +kernel⟩
theorem yp_X9_guestAgain : plainName yX9_guestAgain.cls = true := by decide +kernel
theorem yk_X9_levelBehind : en_y yX9_levelBehind 2 := ⟨by decide, by decide, by decide +kernel⟩
theorem yp_X9_levelBehind : plainName yX9_levelBehind.cls = true := by decide +kernel
theorem yk_X9_lowestOf : en_y yX9_lowestOf 1 := ⟨by decide, by decide, by decide +kernel⟩
theorem yp_X9_lowestOf : plainName yX9_lowestOf.cls = true := by decide +kernel
theorem yk_X9_firstBelow : en_y yX9_firstBelow 2 := ⟨by decide, by decide, by decide +kernel⟩
theorem yp_X9_firstBelow : plainName yX9_firstBelow.cls = true := by decide +kernel
theorem yk_X9_lastLacking : en_y yX9_lastLacking 2 := ⟨by decide, by decide, by decide +kernel⟩
theorem yp_X9_lastLacking : plainName yX9_lastLacking.cls = true := by decide +kernel
theorem yk_X9_firstUnlike : en_y yX9_firstUnlike 2 := ⟨by decide, by decide, by decide +kernel⟩
theorem yp_X9_firstUnlike : plainName yX9_firstUnlike.cls = true := by decide +kernel
theorem yk_X9_lossWithout : en_y yX9_lossWithout 1 := ⟨by decide, by decide, by decide +kernel⟩
theorem yp_X9_lossWithout : plainName yX9_lossWithout.cls = true := by decide +kernel
theorem yk_X9_comes : en_y yX9_comes 1 := ⟨by decide, by decide, by decide +kernel⟩
theorem yp_X9_comes : plainName yX9_comes.cls = true := by decide +kernel
theorem yk_X9_worstGuest : en_y yX9_worstGuest 0 := ⟨by decide, by decide, by decide +kernel⟩
theorem yp_X9_worstGuest : plainName yX9_worstGuest.cls = true := by decide +kernel
theorem yk_X9_rarestVisit : en_y yX9_rarestVisit 3 := ⟨by decide, by decide, by decide +kernel⟩
theorem yp_X9_rarestVisit : plainName yX9_rarestVisit.cls = true := by decide +kernel
theorem yk_X9_holdsWithVisits : en_y yX9_holdsWithVisits 4 := ⟨by decide, by decide, by decide +kernel⟩
theorem yp_X9_holdsWithVisits : plainName yX9_holdsWithVisits.cls = true := by decide +kernel
theorem yk_X9_hireWarden : en_y yX9_hireWarden 0 := ⟨by decide, by decide, by decide +kernel⟩
theorem yp_X9_hireWarden : plainName yX9_hireWarden.cls = true := by decide +kernel
theorem yk_X9_wardenLoss : en_y yX9_wardenLoss 1 := ⟨by decide, by decide, by decide +kernel⟩
theorem yp_X9_wardenLoss : plainName yX9_wardenLoss.cls = true := by decide +kernel
theorem yk_X9_placesToOrder : en_y yX9_placesToOrder 0 := ⟨by decide, by decide, by decide +kernel⟩
theorem yp_X9_placesToOrder : plainName yX9_placesToOrder.cls = true := by decide +kernel
theorem yk_X9_findBestOrder : en_y yX9_findBestOrder 0 := ⟨by decide, by decide, by decide +kernel⟩
theorem yp_X9_findBestOrder : plainName yX9_findBestOrder.cls = true := by decide +kernel
theorem yk_X9_keepOrder : en_y yX9_keepOrder 1 := ⟨by decide, by decide, by decide +kernel⟩
theorem yp_X9_keepOrder : plainName yX9_keepOrder.cls = true := by decide +kernel
theorem yk_X9_lossInOrder : en_y yX9_lossInOrder 0 := ⟨by decide, by decide, by decide +kernel⟩
theorem yp_X9_lossInOrder : plainName yX9_lossInOrder.cls = true := by decide +kernel
theorem yk_X9_nextOrder : en_y yX9_nextOrder 0 := ⟨by decide, by decide, by decide +kernel⟩
theorem yp_X9_nextOrder : plainName yX9_nextOrder.cls = true := by decide +kernel
theorem yk_X9_swapPlaces : en_y yX9_swapPlaces 2 := ⟨by decide, by decide, by decide +kernel⟩
theorem yp_X9_swapPlaces : plainName yX9_swapPlaces.cls = true := by decide +kernel
theorem yk_X9_takenInAll : en_y yX9_takenInAll 0 := ⟨by decide, by decide, by decide +kernel⟩
theorem yp_X9_takenInAll : plainName yX9_takenInAll.cls = true := by decide +kernel
theorem yk_X9_draw : en_y yX9_draw 2 := ⟨by decide, by decide, by decide +kernel⟩
theorem yp_X9_draw : plainName yX9_draw.cls = true := by decide +kernel
theorem yk_X10_init : en_y yX10_init 0 := ⟨by decide, by decide, by decide +kernel⟩
theorem yp_X10_init : plainName yX10_init.cls = true := by decide +kernel
theorem yk_X10_guest : en_y yX10_guest 2 := ⟨by decide, by decide, by decide +kernel⟩
theorem yp_X10_guest : plainName yX10_guest.cls = true := by decide +kernel
theorem yk_X10_guests : en_y yX10_guests 3 := ⟨by decide, by decide, by decide +kernel⟩
theorem yp_X10_guests : plainName yX10_guests.cls = true := by decide +kernel
theorem yk_X10_welcomeFrom : en_y yX10_welcomeFrom 3 := ⟨by decide, by decide, by decide +kernel⟩
theorem yp_X10_welcomeFrom : plainName yX10_welcomeFrom.cls = true := by decide +kernel
theorem yk_X10_mend : en_y yX10_mend 3 := ⟨by decide, by decide, by decide +kernel⟩
theorem yp_X10_mend : plainName yX10_mend.cls = true := by decide +kernel
theorem yk_X10_of : en_y yX10_of 2 := ⟨by decide, by decide, by decide +kernel⟩
theorem yp_X10_of : plainName yX10_of.cls = true := by decide +kernel
theorem yk_X10_feed : en_y yX10_feed 1 := ⟨by decide, by decide, by decide +kernel⟩
theorem yp_X10_feed : plainName yX10_feed.cls = true := by decide +kernel
theorem yk_X10_law : en_y yX10_law 0 := ⟨by decide, by decide, by decide +kernel⟩
theorem yp_X10_law : plainName yX10_law.cls = true := by decide +kernel
theorem yk_X10_level : en_y yX10_level 3 := ⟨by decide, by decide, by decide +kernel⟩
theorem yp_X10_level : plainName yX10_level.cls = true := by decide +kernel
theorem yk_X10_lowest : en_y yX10_lowest 2 := ⟨by decide, by decide, by decide +kernel⟩
theorem yp_X10_lowest : plainName yX10_lowest.cls = true := by decide +kernel
theorem yk_X10_below : en_y yX10_below 3 := ⟨by decide, by decide, by decide +kernel⟩
theorem yp_X10_below : plainName yX10_below.cls = true := by decide +kernel
theorem yk_X10_loss : en_y yX10_loss 1 := ⟨by decide, by decide, by decide +kernel⟩
theorem yp_X10_loss : plainName yX10_loss.cls = true := by decide +kernel
theorem yk_X10_rest : en_y yX10_rest 2 := ⟨by decide, by decide, by decide +kernel⟩
theorem yp_X10_rest : plainName yX10_rest.cls = true := by decide +kernel
theorem yk_X10_often : en_y yX10_often 3 := ⟨by decide, by decide, by decide +kernel⟩
theorem yp_X10_often : plainName yX10_often.cls = true := by decide +kernel
theorem yk_X10_warden : en_y yX10_warden 2 := ⟨by decide, by decide, by decide +kernel⟩
theorem yp_X10_warden : plainName yX10_warden.cls = true := by decide +kernel
theorem yk_X10_spoils : en_y yX10_spoils 2 := ⟨by decide, by decide, by decide +kernel⟩
theorem yp_X10_spoils : plainName yX10_spoils.cls = true := by decide +kernel
theorem yk_X10_order : en_y yX10_order 2 := ⟨by decide, by decide, by decide +kernel⟩
theorem yp_X10_order : plainName yX10_order.cls = true := by decide +kernel
theorem yk_X10_tin : en_y yX10_tin 2 := ⟨by decide, by decide, by decide +kernel⟩
theorem yp_X10_tin : plainName yX10_tin.cls = true := by decide +kernel
theorem yk_X10_greatestCommon : en_y yX10_greatestCommon 2 := ⟨by decide, by decide, by decide +kernel⟩
theorem yp_X10_greatestCommon : plainName yX10_greatestCommon.cls = true := by decide +kernel
theorem yk_X10_who : en_y yX10_who 3 := ⟨by decide, by decide, by decide +kernel⟩
theorem yp_X10_who : plainName yX10_who.cls = true := by decide +kernel
theorem yk_X10_ways : en_y yX10_ways 2 := ⟨by decide, by decide, by decide +kernel⟩
theorem yp_X10_ways : plainName yX10_ways.cls = true := by decide +kernel
theorem yk_X10_judge : en_y yX10_judge 2 := ⟨by decide, by decide, by decide +kernel⟩
theorem yp_X10_judge : plainName yX10_judge.cls = true := by decide +kernel
theorem yk_X10_since : en_y yX10_since 3 := ⟨by decide, by decide, by decide +kernel⟩
theorem yp_X10_since : plainName yX10_since.cls = true := by decide +kernel
theorem yk_X10_drawn : en_y yX10_drawn 3 := ⟨by decide, by decide, by decide +kernel⟩
theorem yp_X10_drawn : plainName yX10_drawn.cls = true := by decide +kernel
theorem yk_X10_night : en_y yX10_night 1 := ⟨by decide, by decide, by decide +kernel⟩
theorem yp_X10_night : plainName yX10_night.cls = true := by decide +kernel
theorem yk_X10_set : en_y yX10_set 2 := ⟨by decide, by decide, by decide +kernel⟩
theorem yp_X10_set : plainName yX10_set.cls = true := by decide +kernel
theorem yk_X10_forget : en_y yX10_forget 1 := ⟨by decide, by decide, by decide +kernel⟩
theorem yp_X10_forget : plainName yX10_forget.cls = true := by decide +kernel
theorem yk_X10_led : en_y yX10_led 1 := ⟨by decide, by decide, by decide +kernel⟩
theorem yp_X10_led : plainName yX10_led.cls = true := by decide +kernel
theorem yk_X10_image : en_y yX10_image 0 := ⟨by decide, by decide, by decide +kernel⟩
theorem yp_X10_image : plainName yX10_image.cls = true := by decide +kernel
theorem yk_X10_back : en_y yX10_back 0 := ⟨by decide, by decide, by decide +kernel⟩
theorem yp_X10_back : plainName yX10_back.cls = true := by decide +kernel
theorem yk_X10_undo : en_y yX10_undo 0 := ⟨by decide, by decide, by decide +kernel⟩
theorem yp_X10_undo : plainName yX10_undo.cls = true := by decide +kernel
theorem yk_X10_redo : en_y yX10_redo 0 := ⟨by decide, by decide, by decide +kernel⟩
theorem yp_X10_redo : plainName yX10_redo.cls = true := by decide +kernel
theorem yk_X10_body : en_y yX10_body 1 := ⟨by decide, by decide, by decide +kernel⟩
theorem yp_X10_body : plainName yX10_body.cls = true := by decide +kernel
theorem yk_X10_act : en_y yX10_act 3 := ⟨by decide, by decide, by decide +kernel⟩
theorem yp_X10_act : plainName yX10_act.cls = true := by decide +kernel
theorem yk_X10_trace : en_y yX10_trace 1 := ⟨by decide, by decide, by decide +kernel⟩
theorem yp_X10_trace : plainName yX10_trace.cls = true := by decide +kernel
theorem yk_X10_keep : en_y yX10_keep 2 := ⟨by decide, by decide, by decide +kernel⟩
theorem yp_X10_keep : plainName yX10_keep.cls = true := by decide +kernel
theorem yk_X10_row : en_y yX10_row 3 := ⟨by decide, by decide, by decide +kernel⟩
theorem yp_X10_row : plainName yX10_row.cls = true := by decide +kernel
theorem yk_X10_put : en_y yX10_put 3 := ⟨by decide, by decide, by decide +kernel⟩
theorem yp_X10_put : plainName yX10_put.cls = true := by decide +kernel
theorem yk_X10_element : en_y yX10_element 2 := ⟨by decide, by decide, by decide +kernel⟩
theorem yp_X10_element : plainName yX10_element.cls = true := by decide +kernel
theorem yk_X10_shift : en_y yX10_shift 5 := ⟨by decide, by decide, by decide +kernel⟩
theorem yp_X10_shift : plainName yX10_shift.cls = true := by decide +kernel
theorem yk_X10_taken : en_y yX10_taken 2 := ⟨by decide, by decide, by decide +kernel⟩
theorem yp_X10_taken : plainName yX10_taken.cls = true := by decide +kernel
theorem yk_X10_count : en_y yX10_count 1 := ⟨by decide, by decide, by decide +kernel⟩
theorem yp_X10_count : plainName yX10_count.cls = true := by decide +kernel
theorem yk_X10_isWithin : en_y yX10_isWithin 2 := ⟨by decide, by decide, by decide +kernel⟩
theorem yp_X10_isWithin : plainName yX10_isWithin.cls = true := by decide +kernel
theorem yk_X10_isThing : en_y yX10_isThing 1 := ⟨by decide, by decide, by decide +kernel⟩
theorem yp_X10_isThing : plainName yX10_isThing.cls = true := by decide +kernel
theorem yk_X10_isShelf : en_y yX10_isShelf 1 := ⟨by decide, by decide, by decide +kernel⟩
theorem yp_X10_isShelf : plainName yX10_isShelf.cls = true := by decide +kernel
theorem yk_X11_init : en_y yX11_init 0 := ⟨by decide, by decide, by decide +kernel⟩
theorem yp_X11_init : plainName yX11_init.cls = true := by decide +kernel
theorem yk_X11_in : en_y yX11_in 3 := ⟨by decide, by decide, by decide +kernel⟩
theorem yp_X11_in : plainName yX11_in.cls = true := by decide +kernel
theorem yk_X11_isThing : en_y yX11_isThing 1 := ⟨by decide, by decide, by decide +kernel⟩
theorem yp_X11_isThing : plainName yX11_isThing.cls = true := by decide +kernel
theorem yk_X11_isGuest : en_y yX11_isGuest 1 := ⟨by decide, by decide, by decide +kernel⟩
theorem yp_X11_isGuest : plainName yX11_isGuest.cls = true := by decide +kernel
theorem yk_X11_areTwo : en_y yX11_areTwo 1 := ⟨by decide, by decide, by decide +kernel⟩
theorem yp_X11_areTwo : plainName yX11_areTwo.cls = true := by decide +kernel
theorem yk_X11_addGuest : en_y yX11_addGuest 3 := ⟨by decide, by decide, by decide +kernel⟩
theorem yp_X11_addGuest : plainName yX11_addGuest.cls = true := by decide +kernel
theorem yk_X11_guest : en_y yX11_guest 2 := ⟨by decide, by decide, by decide +kernel⟩
theorem yp_X11_guest : plainName yX11_guest.cls = true := by decide +kernel
theorem yk_X11_guests : en_y yX11_guests 3 := ⟨by decide, by decide, by decide +kernel⟩
theorem yp_X11_guests : plainName yX11_guests.cls = true := by decide +kernel
theorem yk_X11_spotAt : en_y yX11_spotAt 1 := ⟨by decide, by decide, by decide +kernel⟩
theorem yp_X11_spotAt : plainName yX11_spotAt.cls = true := by decide +kernel
theorem yk_X11_valueAt : en_y yX11_valueAt 2 := ⟨by decide, by decide, by decide +kernel⟩
theorem yp_X11_valueAt : plainName yX11_valueAt.cls = true := by decide +kernel
theorem yk_X11_lays : en_y yX11_lays 3 := ⟨by decide, by decide, by decide +kernel⟩
theorem yp_X11_lays : plainName yX11_lays.cls = true := by decide +kernel
theorem yk_X11_changes : en_y yX11_changes 3 := ⟨by decide, by decide, by decide +kernel⟩
theorem yp_X11_changes : plainName yX11_changes.cls = true := by decide +kernel
theorem yk_X11_undo : en_y yX11_undo 0 := ⟨by decide, by decide, by decide +kernel⟩
theorem yp_X11_undo : plainName yX11_undo.cls = true := by decide +kernel
theorem yk_X11_redo : en_y yX11_redo 0 := ⟨by decide, by decide, by decide +kernel⟩
theorem yp_X11_redo : plainName yX11_redo.cls = true := by decide +kernel
theorem yk_X11_isOne : en_y yX11_isOne 2 := ⟨by decide, by decide, by decide +kernel⟩
theorem yp_X11_isOne : plainName yX11_isOne.cls = true := by decide +kernel
theorem yk_X11_mayBe : en_y yX11_mayBe 2 := ⟨by decide, by decide, by decide +kernel⟩
theorem yp_X11_mayBe : plainName yX11_mayBe.cls = true := by decide +kernel
theorem yk_X11_mend : en_y yX11_mend 3 := ⟨by decide, by decide, by decide +kernel⟩
theorem yp_X11_mend : plainName yX11_mend.cls = true := by decide +kernel
theorem yk_X11_of : en_y yX11_of 2 := ⟨by decide, by decide, by decide +kernel⟩
theorem yp_X11_of : plainName yX11_of.cls = true := by decide +kernel
theorem yk_X11_feed : en_y yX11_feed 1 := ⟨by decide, by decide, by decide +kernel⟩
theorem yp_X11_feed : plainName yX11_feed.cls = true := by decide +kernel
theorem yk_X11_look : en_y yX11_look 0 := ⟨by decide, by decide, by decide +kernel⟩
theorem yp_X11_look : plainName yX11_look.cls = true := by decide +kernel
theorem yk_X11_faulty : en_y yX11_faulty 0 := ⟨by decide, by decide, by decide +kernel⟩
theorem yp_X11_faulty : plainName yX11_faulty.cls = true := by decide +kernel
theorem yk_X11_addStep : en_y yX11_addStep 2 := ⟨by decide, by decide, by decide +kernel⟩
theorem yp_X11_addStep : plainName yX11_addStep.cls = true := by decide +kernel
theorem yk_X11_nameOf : en_y yX11_nameOf 1 := ⟨by decide, by decide, by decide +kernel⟩
theorem yp_X11_nameOf : plainName yX11_nameOf.cls = true := by decide +kernel
theorem yk_X11_opens : en_y yX11_opens 0 := ⟨by decide, by decide, by decide +kernel⟩
theorem yp_X11_opens : plainName yX11_opens.cls = true := by decide +kernel
theorem yk_X11_figure : en_y yX11_figure 0 := ⟨by decide, by decide, by decide +kernel⟩
theorem yp_X11_figure : plainName yX11_figure.cls = true := by decide +kernel
theorem yk_X11_operand : en_y yX11_operand 0 := ⟨by decide, by decide, by decide +kernel⟩
theorem yp_X11_operand : plainName yX11_operand.cls = true := by decide +kernel
theorem yk_X11_product : en_y yX11_product 0 := ⟨by decide, by decide, by decide +kernel⟩
theorem yp_X11_product : plainName yX11_product.cls = true := by decide +kernel
theorem yk_X11_sum : en_y yX11_sum 0 := ⟨by decide, by decide, by decide +kernel⟩
theorem yp_X11_sum : plainName yX11_sum.cls = true := by decide +kernel
theorem yk_X11_compared : en_y yX11_compared 0 := ⟨by decide, by decide, by decide +kernel⟩
theorem yp_X11_compared : plainName yX11_compared.cls = true := by decide +kernel
theorem yk_X11_both : en_y yX11_both 0 := ⟨by decide, by decide, by decide +kernel⟩
theorem yp_X11_both : plainName yX11_both.cls = true := by decide +kernel
theorem yk_X11_either : en_y yX11_either 0 := ⟨by decide, by decide, by decide +kernel⟩
theorem yp_X11_either : plainName yX11_either.cls = true := by decide +kernel
theorem yk_X11_line : en_y yX11_line 0 := ⟨by decide, by decide, by decide +kernel⟩
theorem yp_X11_line : plainName yX11_line.cls = true := by decide +kernel
theorem yk_X11_readText : en_y yX11_readText 1 := ⟨by decide, by decide, by decide +kernel⟩
theorem yp_X11_readText : plainName yX11_readText.cls = true := by decide +kernel
theorem yk_X11_twoOf : en_y yX11_twoOf 3 := ⟨by decide, by decide, by decide +kernel⟩
theorem yp_X11_twoOf : plainName yX11_twoOf.cls = true := by decide +kernel
theorem yk_X11_worked : en_y yX11_worked 3 := ⟨by decide, by decide, by decide +kernel⟩
theorem yp_X11_worked : plainName yX11_worked.cls = true := by decide +kernel
theorem yk_X11_gives : en_y yX11_gives 1 := ⟨by decide, by decide, by decide +kernel⟩
theorem yp_X11_gives : plainName yX11_gives.cls = true := by decide +kernel
theorem yk_X11_law : en_y yX11_law 0 := ⟨by decide, by decide, by decide +kernel⟩
theorem yp_X11_law : plainName yX11_law.cls = true := by decide +kernel
theorem yk_X11_oughtBy : en_y yX11_oughtBy 2 := ⟨by decide, by decide, by decide +kernel⟩
theorem yp_X11_oughtBy : plainName yX11_oughtBy.cls = true := by decide +kernel
theorem yk_X11_levelBehind : en_y yX11_levelBehind 3 := ⟨by decide, by decide, by decide +kernel⟩
theorem yp_X11_levelBehind : plainName yX11_levelBehind.cls = true := by decide +kernel
theorem yk_X11_nightOf : en_y yX11_nightOf 1 := ⟨by decide, by decide, by decide +kernel⟩
theorem yp_X11_nightOf : plainName yX11_nightOf.cls = true := by decide +kernel
theorem yk_X11_goNight : en_y yX11_goNight 1 := ⟨by decide, by decide, by decide +kernel⟩
theorem yp_X11_goNight : plainName yX11_goNight.cls = true := by decide +kernel
theorem yk_X11_lacksOf : en_y yX11_lacksOf 1 := ⟨by decide, by decide, by decide +kernel⟩
theorem yp_X11_lacksOf : plainName yX11_lacksOf.cls = true := by decide +kernel
theorem yk_X11_lossNow : en_y yX11_lossNow 0 := ⟨by decide, by decide, by decide +kernel⟩
theorem yp_X11_lossNow : plainName yX11_lossNow.cls = true := by decide +kernel
theorem yk_X11_keepHut : en_y yX11_keepHut 0 := ⟨by decide, by decide, by decide +kernel⟩
theorem yp_X11_keepHut : plainName yX11_keepHut.cls = true := by decide +kernel
theorem yk_X11_layHut : en_y yX11_layHut 0 := ⟨by decide, by decide, by decide +kernel⟩
theorem yp_X11_layHut : plainName yX11_layHut.cls = true := by decide +kernel
theorem yk_X11_rowFault : en_y yX11_rowFault 1 := ⟨by decide, by decide, by decide +kernel⟩
theorem yp_X11_rowFault : plainName yX11_rowFault.cls = true := by decide +kernel
theorem yk_X11_layStays : en_y yX11_layStays 1 := ⟨by decide, by decide, by decide +kernel⟩
theorem yp_X11_layStays : plainName yX11_layStays.cls = true := by decide +kernel
theorem yk_X11_level : en_y yX11_level 3 := ⟨by decide, by decide, by decide +kernel⟩
theorem yp_X11_level : plainName yX11_level.cls = true := by decide +kernel
theorem yk_X11_lowest : en_y yX11_lowest 2 := ⟨by decide, by decide, by decide +kernel⟩
theorem yp_X11_lowest : plainName yX11_lowest.cls = true := by decide +kernel
theorem yk_X11_below : en_y yX11_below 3 := ⟨by decide, by decide, by decide +kernel⟩
theorem yp_X11_below : plainName yX11_below.cls = true := by decide +kernel
theorem yk_X11_lossOf : en_y yX11_lossOf 0 := ⟨by decide, by decide, by decide +kernel⟩
theorem yp_X11_lossOf : plainName yX11_lossOf.cls = true := by decide +kernel
theorem yk_X11_loss : en_y yX11_loss 1 := ⟨by decide, by decide, by decide +kernel⟩
theorem yp_X11_loss : plainName yX11_loss.cls = true := by decide +kernel
theorem yk_X11_isAs : en_y yX11_isAs 1 := ⟨by decide, by decide, by decide +kernel⟩
theorem yp_X11_isAs : plainName yX11_isAs.cls = true := by decide +kernel
theorem yk_X11_rest : en_y yX11_rest 2 := ⟨by decide, by decide, by decide +kernel⟩
theorem yp_X11_rest : plainName yX11_rest.cls = true := by decide +kernel
theorem yk_X11_againAt : en_y yX11_againAt 1 := ⟨by decide, by decide, by decide +kernel⟩
theorem yp_X11_againAt : plainName yX11_againAt.cls = true := by decide +kernel
theorem yk_X11_holds60 : en_y yX11_holds60 4 := ⟨by decide, by decide, by decide +kernel⟩
theorem yp_X11_holds60 : plainName yX11_holds60.cls = true := by decide +kernel
theorem yk_X11_often : en_y yX11_often 3 := ⟨by decide, by decide, by decide +kernel⟩
theorem yp_X11_often : plainName yX11_often.cls = true := by decide +kernel
theorem yk_X11_wardenCost : en_y yX11_wardenCost 1 := ⟨by decide, by decide, by decide +kernel⟩
theorem yp_X11_wardenCost : plainName yX11_wardenCost.cls = true := by decide +kernel
theorem yk_X11_warden : en_y yX11_warden 2 := ⟨by decide, by decide, by decide +kernel⟩
theorem yp_X11_warden : plainName yX11_warden.cls = true := by decide +kernel
theorem yk_X11_keepStays : en_y yX11_keepStays 0 := ⟨by decide, by decide, by decide +kernel⟩
theorem yp_X11_keepStays : plainName yX11_keepStays.cls = true := by decide +kernel
theorem yk_X11_spoils : en_y yX11_spoils 2 := ⟨by decide, by decide, by decide +kernel⟩
theorem yp_X11_spoils : plainName yX11_spoils.cls = true := by decide +kernel
theorem yk_X11_goOrders : en_y yX11_goOrders 3 := ⟨by decide, by decide, by decide +kernel⟩
theorem yp_X11_goOrders : plainName yX11_goOrders.cls = true := by decide +kernel
theorem yk_X11_order : en_y yX11_order 2 := ⟨by decide, by decide, by decide +kernel⟩
theorem yp_X11_order : plainName yX11_order.cls = true := by decide +kernel
theorem yk_X11_asPart : en_y yX11_asPart 3 := ⟨by decide, by decide, by decide +kernel⟩
theorem yp_X11_asPart : plainName yX11_asPart.cls = true := by decide +kernel
theorem yk_X11_tin : en_y yX11_tin 2 := ⟨by decide, by decide, by decide +kernel⟩
theorem yp_X11_tin : plainName yX11_tin.cls = true := by decide +kernel
theorem yk_X11_laySeen : en_y yX11_laySeen 1 := ⟨by decide, by decide, by decide +kernel⟩
theorem yp_X11_laySeen : plainName yX11_laySeen.cls = true := by decide +kernel
theorem yk_X11_waysFrom : en_y yX11_waysFrom 3 := ⟨by decide, by decide, by decide +kernel⟩
theorem yp_X11_waysFrom : plainName yX11_waysFrom.cls = true := by decide +kernel
theorem yk_X11_waysOf : en_y yX11_waysOf 4 := ⟨by decide, by decide, by decide +kernel⟩
theorem yp_X11_waysOf : plainName yX11_waysOf.cls = true := by decide +kernel
theorem yk_X11_who : en_y yX11_who 3 := ⟨by decide, by decide, by decide +kernel⟩
theorem yp_X11_who : plainName yX11_who.cls = true := by decide +kernel
theorem yk_X11_ways : en_y yX11_ways 2 := ⟨by decide, by decide, by decide +kernel⟩
theorem yp_X11_ways : plainName yX11_ways.cls = true := by decide +kernel
theorem yk_X11_judge : en_y yX11_judge 2 := ⟨by decide, by decide, by decide +kernel⟩
theorem yp_X11_judge : plainName yX11_judge.cls = true := by decide +kernel
theorem yk_X11_since : en_y yX11_since 3 := ⟨by decide, by decide, by decide +kernel⟩
theorem yp_X11_since : plainName yX11_since.cls = true := by decide +kernel
theorem yk_X11_drawn : en_y yX11_drawn 3 := ⟨by decide, by decide, by decide +kernel⟩
theorem yp_X11_drawn : plainName yX11_drawn.cls = true := by decide +kernel
theorem yk_X11_night : en_y yX11_night 1 := ⟨by decide, by decide, by decide +kernel⟩
theorem yp_X11_night : plainName yX11_night.cls = true := by decide +kernel
theorem yk_X11_set : en_y yX11_set 2 := ⟨by decide, by decide, by decide +kernel⟩
theorem yp_X11_set : plainName yX11_set.cls = true := by decide +kernel
theorem yk_X11_forget : en_y yX11_forget 1 := ⟨by decide, by decide, by decide +kernel⟩
theorem yp_X11_forget : plainName yX11_forget.cls = true := by decide +kernel
theorem yk_X11_led : en_y yX11_led 1 := ⟨by decide, by decide, by decide +kernel⟩
theorem yp_X11_led : plainName yX11_led.cls = true := by decide +kernel
theorem yk_X11_image : en_y yX11_image 0 := ⟨by decide, by decide, by decide +kernel⟩
theorem yp_X11_image : plainName yX11_image.cls = true := by decide +kernel
theorem yk_X11_back : en_y yX11_back 0 := ⟨by decide, by decide, by decide +kernel⟩
theorem yp_X11_back : plainName yX11_back.cls = true := by decide +kernel
theorem yk_X11_beenMany : en_y yX11_beenMany 0 := ⟨by decide, by decide, by decide +kernel⟩
theorem yp_X11_beenMany : plainName yX11_beenMany.cls = true := by decide +kernel
theorem yk_X11_isBody : en_y yX11_isBody 1 := ⟨by decide, by decide, by decide +kernel⟩
theorem yp_X11_isBody : plainName yX11_isBody.cls = true := by decide +kernel
theorem yk_X11_ran : en_y yX11_ran 1 := ⟨by decide, by decide, by decide +kernel⟩
theorem yp_X11_ran : plainName yX11_ran.cls = true := by decide +kernel
theorem yk_X11_trace : en_y yX11_trace 1 := ⟨by decide, by decide, by decide +kernel⟩
theorem yp_X11_trace : plainName yX11_trace.cls = true := by decide +kernel
theorem yk_X11_body : en_y yX11_body 1 := ⟨by decide, by decide, by decide +kernel⟩
theorem yp_X11_body : plainName yX11_body.cls = true := by decide +kernel
theorem yk_X11_isUnder : en_y yX11_isUnder 2 := ⟨by decide, by decide, by decide +kernel⟩
theorem yp_X11_isUnder : plainName yX11_isUnder.cls = true := by decide +kernel
theorem yk_X11_plainComes : en_y yX11_plainComes 2 := ⟨by decide, by decide, by decide +kernel⟩
theorem yp_X11_plainComes : plainName yX11_plainComes.cls = true := by decide +kernel
theorem yk_X11_bareComes : en_y yX11_bareComes 2 := ⟨by decide, by decide, by decide +kernel⟩
theorem yp_X11_bareComes : plainName yX11_bareComes.cls = true := by decide +kernel
theorem yk_X11_coming : en_y yX11_coming 2 := ⟨by decide, by decide, by decide +kernel⟩
theorem yp_X11_coming : plainName yX11_coming.cls = true := by decide +kernel
theorem yk_X11_plainLeaves : en_y yX11_plainLeaves 2 := ⟨by decide, by decide, by decide +kernel⟩
theorem yp_X11_plainLeaves : plainName yX11_plainLeaves.cls = true := by decide +kernel
theorem yk_X11_takenLeaves : en_y yX11_takenLeaves 2 := ⟨by decide, by decide, by decide +kernel⟩
theorem yp_X11_takenLeaves : plainName yX11_takenLeaves.cls = true := by decide +kernel
theorem yk_X11_leaving : en_y yX11_leaving 2 := ⟨by decide, by decide, by decide +kernel⟩
theorem yp_X11_leaving : plainName yX11_leaving.cls = true := by decide +kernel
theorem yk_X11_plainSees : en_y yX11_plainSees 2 := ⟨by decide, by decide, by decide +kernel⟩
theorem yp_X11_plainSees : plainName yX11_plainSees.cls = true := by decide +kernel
theorem yk_X11_broughtSees : en_y yX11_broughtSees 2 := ⟨by decide, by decide, by decide +kernel⟩
theorem yp_X11_broughtSees : plainName yX11_broughtSees.cls = true := by decide +kernel
theorem yk_X11_seeing : en_y yX11_seeing 2 := ⟨by decide, by decide, by decide +kernel⟩
theorem yp_X11_seeing : plainName yX11_seeing.cls = true := by decide +kernel
theorem yk_X11_plainTells : en_y yX11_plainTells 2 := ⟨by decide, by decide, by decide +kernel⟩
theorem yp_X11_plainTells : plainName yX11_plainTells.cls = true := by decide +kernel
theorem yk_X11_telling : en_y yX11_telling 2 := ⟨by decide, by decide, by decide +kernel⟩
theorem yp_X11_telling : plainName yX11_telling.cls = true := by decide +kernel
theorem yk_X11_act : en_y yX11_act 3 := ⟨by decide, by decide, by decide +kernel⟩
theorem yp_X11_act : plainName yX11_act.cls = true := by decide +kernel
theorem yk_X11_count : en_y yX11_count 1 := ⟨by decide, by decide, by decide +kernel⟩
theorem yp_X11_count : plainName yX11_count.cls = true := by decide +kernel
theorem yk_X11_isShelf : en_y yX11_isShelf 1 := ⟨by decide, by decide, by decide +kernel⟩
theorem yp_X11_isShelf : plainName yX11_isShelf.cls = true := by decide +kernel
theorem yk_X11_keep : en_y yX11_keep 2 := ⟨by decide, by decide, by decide +kernel⟩
theorem yp_X11_keep : plainName yX11_keep.cls = true := by decide +kernel
theorem yk_X11_row : en_y yX11_row 3 := ⟨by decide, by decide, by decide +kernel⟩
theorem yp_X11_row : plainName yX11_row.cls = true := by decide +kernel
theorem yk_X11_whyNoPlace : en_y yX11_whyNoPlace 2 := ⟨by decide, by decide, by decide +kernel⟩
theorem yp_X11_whyNoPlace : plainName yX11_whyNoPlace.cls = true := by decide +kernel
theorem yk_X11_put : en_y yX11_put 3 := ⟨by decide, by decide, by decide +kernel⟩
theorem yp_X11_put : plainName yX11_put.cls = true := by decide +kernel
theorem yk_X11_element : en_y yX11_element 2 := ⟨by decide, by decide, by decide +kernel⟩
theorem yp_X11_element : plainName yX11_element.cls = true := by decide +kernel
theorem yk_X11_shift : en_y yX11_shift 5 := ⟨by decide, by decide, by decide +kernel⟩
theorem yp_X11_shift : plainName yX11_shift.cls = true := by decide +kernel
theorem yk_X11_taken : en_y yX11_taken 2 := ⟨by decide, by decide, by decide +kernel⟩
theorem yp_X11_taken : plainName yX11_taken.cls = true := by decide +kernel
