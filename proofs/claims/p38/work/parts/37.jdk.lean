/-! texts: String.indexOf of a constant -/
def RJ0 : String := "java/lang/String"
def RJ1 : String := "java/lang/StringLatin1"
def yJ0_indexOf_0f7a4 : MethodName := ⟨RJ0, "indexOf", "(I)I"⟩
def kc_J0_indexOf_0f7a4 : List (Nat × Instr × Nat) := [(0, .aload_n 0, 1), (1, .iload_n 1, 1), (2, .iconst 0, 1), (3, .invokevirtual 633, 3), (6, .ireturn, 1)]
theorem kd_J0_indexOf_0f7a4 : ∀ q ∈ kc_J0_indexOf_0f7a4, decode prog_16_method_79_code q.1 = .ok q.2 := by decide +kernel
theorem yk_J0_indexOf_0f7a4 : en_y yJ0_indexOf_0f7a4 1 := ⟨by decide, by decide, by decide +kernel⟩
theorem yp_J0_indexOf_0f7a4 : plainName yJ0_indexOf_0f7a4.cls = true := by decide +kernel
def yJ0_indexOf_7cf53 : MethodName := ⟨RJ0, "indexOf", "(II)I"⟩
def kc_J0_indexOf_7cf53 : List (Nat × Instr × Nat) := [(0, .aload_n 0, 1), (1, .invokevirtual 492, 3), (4, .ifCond .eq 19, 3), (7, .aload_n 0, 1), (8, .getfield 9, 3), (11, .iload_n 1, 1), (12, .iload_n 2, 1), (13, .aload_n 0, 1), (14, .invokevirtual 505, 3), (17, .invokestatic 637, 3), (20, .goto 16, 3), (23, .aload_n 0, 1), (24, .getfield 9, 3), (27, .iload_n 1, 1), (28, .iload_n 2, 1), (29, .aload_n 0, 1), (30, .invokevirtual 505, 3), (33, .invokestatic 640, 3), (36, .ireturn, 1)]
theorem kd_J0_indexOf_7cf53 : ∀ q ∈ kc_J0_indexOf_7cf53, decode prog_16_method_80_code q.1 = .ok q.2 := by decide +kernel
theorem yk_J0_indexOf_7cf53 : en_y yJ0_indexOf_7cf53 2 := ⟨by decide, by decide, by decide +kernel⟩
theorem yp_J0_indexOf_7cf53 : plainName yJ0_indexOf_7cf53.cls = true := by decide +kernel
def yJ0_coder_7d493 : MethodName := ⟨RJ0, "coder", "()B"⟩
def kc_J0_coder_7d493 : List (Nat × Instr × Nat) := [(0, .getstatic 38, 3), (3, .ifCond .eq 10, 3), (6, .aload_n 0, 1), (7, .getfield 15, 3), (10, .goto 4, 3), (13, .iconst 1, 1), (14, .ireturn, 1)]
theorem kd_J0_coder_7d493 : ∀ q ∈ kc_J0_coder_7d493, decode prog_16_method_152_code q.1 = .ok q.2 := by decide +kernel
theorem yk_J0_coder_7d493 : en_y yJ0_coder_7d493 0 := ⟨by decide, by decide, by decide +kernel⟩
theorem yp_J0_coder_7d493 : plainName yJ0_coder_7d493.cls = true := by decide +kernel
def yJ0_isLatin1_aae02 : MethodName := ⟨RJ0, "isLatin1", "()Z"⟩
def kc_J0_isLatin1_aae02 : List (Nat × Instr × Nat) := [(0, .getstatic 38, 3), (3, .ifCond .eq 14, 3), (6, .aload_n 0, 1), (7, .getfield 15, 3), (10, .ifCond .ne 7, 3), (13, .iconst 1, 1), (14, .goto 4, 3), (17, .iconst 0, 1), (18, .ireturn, 1)]
theorem kd_J0_isLatin1_aae02 : ∀ q ∈ kc_J0_isLatin1_aae02, decode prog_16_method_154_code q.1 = .ok q.2 := by decide +kernel
theorem yk_J0_isLatin1_aae02 : en_y yJ0_isLatin1_aae02 0 := ⟨by decide, by decide, by decide +kernel⟩
theorem yp_J0_isLatin1_aae02 : plainName yJ0_isLatin1_aae02.cls = true := by decide +kernel
def yJ0_length_8abf5 : MethodName := ⟨RJ0, "length", "()I"⟩
def kc_J0_length_8abf5 : List (Nat × Instr × Nat) := [(0, .aload_n 0, 1), (1, .getfield 9, 3), (4, .arraylength, 1), (5, .aload_n 0, 1), (6, .invokevirtual 335, 3), (9, .ishr, 1), (10, .ireturn, 1)]
theorem kd_J0_length_8abf5 : ∀ q ∈ kc_J0_length_8abf5, decode prog_16_method_54_code q.1 = .ok q.2 := by decide +kernel
theorem yk_J0_length_8abf5 : en_y yJ0_length_8abf5 0 := ⟨by decide, by decide, by decide +kernel⟩
theorem yp_J0_length_8abf5 : plainName yJ0_length_8abf5.cls = true := by decide +kernel
def yJ1_canEncode_9a6ad : MethodName := ⟨RJ1, "canEncode", "(I)Z"⟩
def kc_J1_canEncode_9a6ad : List (Nat × Instr × Nat) := [(0, .iload_n 0, 1), (1, .ifCond .lt 14, 3), (4, .iload_n 0, 1), (5, .sipush 255, 3), (8, .if_icmp .gt 7, 3), (11, .iconst 1, 1), (12, .goto 4, 3), (15, .iconst 0, 1), (16, .ireturn, 1)]
theorem kd_J1_canEncode_9a6ad : ∀ q ∈ kc_J1_canEncode_9a6ad, decode prog_17_method_4_code q.1 = .ok q.2 := by decide +kernel
theorem yk_J1_canEncode_9a6ad : en_y yJ1_canEncode_9a6ad 1 := ⟨by decide, by decide, by decide +kernel⟩
theorem yp_J1_canEncode_9a6ad : plainName yJ1_canEncode_9a6ad.cls = true := by decide +kernel
def yJ1_indexOf_4cfef : MethodName := ⟨RJ1, "indexOf", "([BIII)I"⟩
def kc_J1_indexOf_4cfef : List (Nat × Instr × Nat) := [(0, .iload_n 1, 1), (1, .invokestatic 88, 3), (4, .ifCond .ne 5, 3), (7, .iconst (-1), 1), (8, .ireturn, 1), (9, .iload_n 2, 1), (10, .iconst 0, 1), (11, .invokestatic 92, 3), (14, .istore_n 2, 1), (15, .iload_n 3, 1), (16, .aload_n 0, 1), (17, .arraylength, 1), (18, .invokestatic 38, 3), (21, .istore_n 3, 1), (22, .iload_n 2, 1), (23, .iload_n 3, 1), (24, .if_icmp .lt 5, 3), (27, .iconst (-1), 1), (28, .ireturn, 1), (29, .aload_n 0, 1), (30, .iload_n 1, 1), (31, .iload_n 2, 1), (32, .iload_n 3, 1), (33, .invokestatic 95, 3), (36, .ireturn, 1)]
theorem kd_J1_indexOf_4cfef : ∀ q ∈ kc_J1_indexOf_4cfef, decode prog_17_method_22_code q.1 = .ok q.2 := by decide +kernel
theorem yk_J1_indexOf_4cfef : en_y yJ1_indexOf_4cfef 4 := ⟨by decide, by decide, by decide +kernel⟩
theorem yp_J1_indexOf_4cfef : plainName yJ1_indexOf_4cfef.cls = true := by decide +kernel
def yJ1_indexOfChar_4cfef : MethodName := ⟨RJ1, "indexOfChar", "([BIII)I"⟩
def kc_J1_indexOfChar_4cfef : List (Nat × Instr × Nat) := [(0, .iload_n 1, 1), (1, .i2b, 1), (2, .istore 4, 2), (4, .iload_n 2, 1), (5, .istore 5, 2), (7, .iload 5, 2), (9, .iload_n 3, 1), (10, .if_icmp .ge 21, 3), (13, .aload_n 0, 1), (14, .iload 5, 2), (16, .baload, 1), (17, .iload 4, 2), (19, .if_icmp .ne 6, 3), (22, .iload 5, 2), (24, .ireturn, 1), (25, .iinc 5 1, 3), (28, .goto (-21), 3), (31, .iconst (-1), 1), (32, .ireturn, 1)]
theorem kd_J1_indexOfChar_4cfef : ∀ q ∈ kc_J1_indexOfChar_4cfef, decode prog_17_method_23_code q.1 = .ok q.2 := by decide +kernel
theorem yk_J1_indexOfChar_4cfef : en_y yJ1_indexOfChar_4cfef 4 := ⟨by decide, by decide, by decide +kernel⟩
theorem yp_J1_indexOfChar_4cfef : plainName yJ1_indexOfChar_4cfef.cls = true := by decide +kernel
def wl_J0_0 : List Cond := [Cond.methodLink "java/lang/String" 633 ⟨"java/lang/String", "indexOf", "(II)I"⟩, Cond.instanceMethod ⟨"java/lang/String", "indexOf", "(II)I"⟩, Cond.selects "java/lang/String" ⟨"java/lang/String", "indexOf", "(II)I"⟩ ⟨"java/lang/String", "indexOf", "(II)I"⟩, Cond.initialized "java/lang/String", Cond.code ⟨"java/lang/String", "indexOf", "(II)I"⟩ prog_16_method_80_code 3 (some .int), Cond.methodLink "java/lang/String" 492 ⟨"java/lang/String", "isLatin1", "()Z"⟩, Cond.instanceMethod ⟨"java/lang/String", "isLatin1", "()Z"⟩, Cond.selects "java/lang/String" ⟨"java/lang/String", "isLatin1", "()Z"⟩ ⟨"java/lang/String", "isLatin1", "()Z"⟩, Cond.code ⟨"java/lang/String", "isLatin1", "()Z"⟩ prog_16_method_154_code 1 (some .boolean), Cond.fieldLink "java/lang/String" 38 "java/lang/String" "COMPACT_STRINGS" "Z", Cond.methodLink "java/lang/String" 505 ⟨"java/lang/String", "length", "()I"⟩, Cond.instanceMethod ⟨"java/lang/String", "length", "()I"⟩, Cond.selects "java/lang/String" ⟨"java/lang/String", "length", "()I"⟩ ⟨"java/lang/String", "length", "()I"⟩, Cond.code ⟨"java/lang/String", "length", "()I"⟩ prog_16_method_54_code 1 (some .int), Cond.methodLink "java/lang/String" 335 ⟨"java/lang/String", "coder", "()B"⟩, Cond.instanceMethod ⟨"java/lang/String", "coder", "()B"⟩, Cond.selects "java/lang/String" ⟨"java/lang/String", "coder", "()B"⟩ ⟨"java/lang/String", "coder", "()B"⟩, Cond.code ⟨"java/lang/String", "coder", "()B"⟩ prog_16_method_152_code 1 (some .byte), Cond.methodLink "java/lang/String" 637 ⟨"java/lang/StringLatin1", "indexOf", "([BIII)I"⟩, Cond.static ⟨"java/lang/StringLatin1", "indexOf", "([BIII)I"⟩, Cond.initialized "java/lang/StringLatin1", Cond.code ⟨"java/lang/StringLatin1", "indexOf", "([BIII)I"⟩ prog_17_method_22_code 4 (some .int), Cond.fieldLink "java/lang/String" 15 "java/lang/String" "coder" "B", Cond.fieldLink "java/lang/String" 9 "java/lang/String" "value" "[B", Cond.arrayClass .int, Cond.arrayClass .long, Cond.arrayClass .byte, Cond.arrayClass .short]
theorem wi_J0_0 : ∀ w ∈ wl_J0_0, w ∈ en_G := en_sub _ [605, 606, 607, 97, 608, 609, 610, 611, 612, 613, 615, 616, 617, 618, 619, 620, 621, 622, 623, 624, 98, 625, 1753, 1754, 150, 285, 695, 1335] (by decide +kernel) (by decide +kernel)
def wl_J1_0 : List Cond := [Cond.methodLink "java/lang/StringLatin1" 88 ⟨"java/lang/StringLatin1", "canEncode", "(I)Z"⟩, Cond.static ⟨"java/lang/StringLatin1", "canEncode", "(I)Z"⟩, Cond.initialized "java/lang/StringLatin1", Cond.code ⟨"java/lang/StringLatin1", "canEncode", "(I)Z"⟩ prog_17_method_4_code 1 (some .boolean), Cond.methodLink "java/lang/StringLatin1" 92 Lib.Math.max.name, Cond.static Lib.Math.max.name, Cond.initialized "java/lang/Math", Cond.code Lib.Math.max.name Lib.Math.max.code 2 (some .int), Cond.methodLink "java/lang/StringLatin1" 38 Lib.Math.min.name, Cond.static Lib.Math.min.name, Cond.code Lib.Math.min.name Lib.Math.min.code 2 (some .int), Cond.methodLink "java/lang/StringLatin1" 95 ⟨"java/lang/StringLatin1", "indexOfChar", "([BIII)I"⟩, Cond.static ⟨"java/lang/StringLatin1", "indexOfChar", "([BIII)I"⟩, Cond.code ⟨"java/lang/StringLatin1", "indexOfChar", "([BIII)I"⟩ prog_17_method_23_code 6 (some .int), Cond.arrayClass .int, Cond.arrayClass .long, Cond.arrayClass .byte, Cond.arrayClass .short]
theorem wi_J1_0 : ∀ w ∈ wl_J1_0, w ∈ en_G := en_sub _ [626, 627, 98, 628, 629, 630, 99, 631, 632, 633, 634, 635, 636, 637, 150, 285, 695, 1335] (by decide +kernel) (by decide +kernel)
section
variable {p : Program} {l : Launch} {e : Env} {R : Room} {s : State} {m : MethodId} {args : Array Value} {below : List Frame} {meth : Method} {c : Code} {cc : ByteArray} {xt : Nat → Nat} {A : Nat → Prop} {own : String} {idx : Nat}
theorem cx_kg {k : Nat} {n d : String} {v : Value} {av : rf_AV} (hx : p.tables.exec = Jvm.exec) (hb : c.code = cc) (hown : s.vm.findClass own = some m.cls) (hE : va_OF "java/lang/String" n d v (xt k) A s s.heap) (hlink : (Cond.fieldLink own idx "java/lang/String" n d).before args s = true) (hv : ∀ (ρ : List Int) (ad : List Nat), rf_gv ρ ad xt av v) : rf_LD p l e R s m args below meth c cc xt A s.heap (10 + 2 * k, idx, av) :=
  ⟨v, hv, fun Q pc H locs cells slots ls rest => ⟨fun h => absurd (show 10 + 2 * k = 0 from h) (by omega), fun h => absurd (show 10 + 2 * k = 1 from h) (by omega), fun h => absurd (show 10 + 2 * k = 2 from h) (by omega), fun k9 h hS hd kk => by
    have e : 10 + 2 * k = 10 + 2 * k9 := h
    have e2 : k = k9 := by omega
    subst e2
    exact vk_getf hx hb hE hS hown hlink (fun x h => h) hd kk, fun k9 h => absurd (show 10 + 2 * k = 11 + 2 * k9 from h) (by omega), fun k9 h => absurd (show 10 + 2 * k = 11 + 2 * k9 from h) (by omega)⟩⟩
theorem cx_kr {k len : Nat} {f : Nat → Int32} (hx : p.tables.exec = Jvm.exec) (hb : c.code = cc) (hT : va_T .byte (xt k) len (fun j => .int (f j)) A s s.heap) (hf : ∀ j, j < len → -128 ≤ (f j).toInt ∧ (f j).toInt ≤ 127) (hlen : (Int32.ofNat len).toInt = (len : Int)) : rf_LD p l e R s m args below meth c cc xt A s.heap (11 + 2 * k, len, (0, 0, (len : Int))) :=
  ⟨.int (Int32.ofNat len), fun ρ ad => ⟨_, rfl, 0, rfl, by rw [hlen]; exact (Int.zero_add _).symm⟩, fun Q pc H locs cells slots ls rest => ⟨fun h => absurd (show 11 + 2 * k = 0 from h) (by omega), fun h => absurd (show 11 + 2 * k = 1 from h) (by omega), fun h => absurd (show 11 + 2 * k = 2 from h) (by omega), fun k9 h => absurd (show 11 + 2 * k = 10 + 2 * k9 from h) (by omega), fun k9 h hS hd kk => by
    have e : 11 + 2 * k = 11 + 2 * k9 := h
    have e2 : k = k9 := by omega
    subst e2
    exact va_tlen hx hb hT hS rfl hd kk, fun k9 h hS x hin hd kk => by
    have e : 11 + 2 * k = 11 + 2 * k9 := h
    have e2 : k = k9 := by omega
    subst e2
    have hi := vp_in_iff.mp hin
    have hj := hf x.toNatClampNeg (by have := hi; simp only [Int32.toNatClampNeg] at *; omega)
    exact va_tb hx hb hT hS hin rfl hd (kk _ hj.1 hj.2)⟩⟩
end
def cf_J0 : List (Nat × Nat × Nat) := []
def cn_J0 : List (Nat × Nat) := []
def cs_J0 : List (Nat × rf_AV) := [(38, (0, 0, Int.ofNat 1))]
def ck_J0 : List (Nat × Nat × rf_AV) := [(24, 9, (4, 9, Int.ofNat 0)), (26, 9, (4, 10, Int.ofNat 0)), (24, 15, (0, 0, Int.ofNat 0)), (26, 15, (0, 0, Int.ofNat 0)), (29, 6, (0, 0, Int.ofNat 6)), (31, 10, (0, 0, Int.ofNat 10))]
def ca_J0 : List Nat := []
theorem cx_J0 {p : Program} {l : Launch} {e : Env} {R : Room} {s : State} {m : MethodId} {args : Array Value} {below : List Frame} {meth : Method} {c : Code} {cc : ByteArray} {D : va_G} {tys : List (ClassId × FieldType)} {xt : Nat → Nat} {A : Nat → Prop} {c0 : Cond} {ML : List (Nat × Nat × Nat × List rf_SP)} {ini df : Bool} {nL RF RC RS RL : Nat} (hTY : rf_TY tys "LeftAsFound$Shelf") (hx : p.tables.exec = Jvm.exec) (hb : c.code = cc) (hml : c.maxLocals = nL) (hown : s.vm.findClass RJ0 = some m.cls) (hts : ∀ w ∈ c0 :: en_G, w.before args s = true) (hK : va_K D nm_cl tys s) (hN : en_N xt A s) (hA : ∀ q, s.heap.size ≤ q → A q) (hin : ini = true → meth.name = "<init>") (hML : ∀ q ∈ ML, rf_MLok p l e R s m args below meth c cc nL RJ0 D nm_cl tys xt (en_N xt) en_G q) (hR : RF ≤ R.frames ∧ RC ≤ R.cells ∧ RS ≤ R.slots ∧ RL ≤ R.locals) :
    rf_CT p l e R s m args below meth c cc RJ0 D nm_cl nm_ct tys xt en_xs (en_N xt) en_G en_G "LeftAsFound$Shelf" 8 A s.heap (cf_J0, cn_J0, cs_J0, ck_J0, ML, ca_J0, (99, ini, df), (nL, RF, RC, RS, RL)) := by
  have hw : ∀ w ∈ en_G, w.before args s = true := fun w h => hts w (List.mem_cons_of_mem _ h)
  have hV := hN.2.2.2.2.1.1
  have h3 : rf_SLok RJ0 cs_J0 xt A args s := List.forall_mem_cons.mpr ⟨⟨_, _, _, _, hN.2.2.2.2.2.2.2, hw _ (wi_J0_0 _ (List.mem_of_getElem? (i := 9) rfl)), fun _ _ => ⟨1, rfl, 0, rfl, by decide⟩⟩, (fun _ h => absurd h List.not_mem_nil)⟩
  have h4 : ∀ q ∈ ck_J0, rf_LD p l e R s m args below meth c cc xt A s.heap q := List.forall_mem_cons.mpr ⟨cx_kg (k := 7) hx hb hown (hV 0 (by decide)).2.2.1 (hw _ (wi_J0_0 _ (List.mem_of_getElem? (i := 23) rfl))) (fun _ _ => rfl), List.forall_mem_cons.mpr ⟨cx_kg (k := 8) hx hb hown (hV 1 (by decide)).2.2.1 (hw _ (wi_J0_0 _ (List.mem_of_getElem? (i := 23) rfl))) (fun _ _ => rfl), List.forall_mem_cons.mpr ⟨cx_kg (k := 7) hx hb hown (hV 0 (by decide)).2.1 (hw _ (wi_J0_0 _ (List.mem_of_getElem? (i := 22) rfl))) (fun _ _ => ⟨0, rfl, 0, rfl, by decide⟩), List.forall_mem_cons.mpr ⟨cx_kg (k := 8) hx hb hown (hV 1 (by decide)).2.1 (hw _ (wi_J0_0 _ (List.mem_of_getElem? (i := 22) rfl))) (fun _ _ => ⟨0, rfl, 0, rfl, by decide⟩), List.forall_mem_cons.mpr ⟨cx_kr (k := 9) (len := 6) (f := fun j => (en_byt.getD 0 []).getD j 0) hx hb (hV 0 (by decide)).2.2.2 (by decide) (by decide), List.forall_mem_cons.mpr ⟨cx_kr (k := 10) (len := 10) (f := fun j => (en_byt.getD 1 []).getD j 0) hx hb (hV 1 (by decide)).2.2.2 (by decide) (by decide), (fun _ h => absurd h List.not_mem_nil)⟩⟩⟩⟩⟩⟩
  have h6 : ∀ t : ArrayType, rf_akd t ≤ 3 → (Cond.arrayClass (newarray.typeOf t)).before args s = true := by
    intro t ht
    cases t <;> first | exact hw _ (wi_J0_0 _ (List.mem_of_getElem? (i := 24) rfl)) | exact hw _ (wi_J0_0 _ (List.mem_of_getElem? (i := 25) rfl)) | exact hw _ (wi_J0_0 _ (List.mem_of_getElem? (i := 26) rfl)) | exact hw _ (wi_J0_0 _ (List.mem_of_getElem? (i := 27) rfl)) | exact absurd ht (by decide)
  exact ⟨⟨hx, hb, hml, hown, hw, en_CL⟩, ⟨hK, hTY, hA, rfl⟩, ⟨(fun _ h => absurd h List.not_mem_nil), (fun _ h => absurd h List.not_mem_nil), h3, h4, hML, (fun _ h => absurd h List.not_mem_nil)⟩, ⟨hN.1, hN.2.2.2.1, h6, en_Nok xt, hN⟩, hR, ⟨fun C hC => (by cases hC), hin, ⟨_, _, rfl⟩, fun h => absurd (show (99 : Nat) = 98 from h) (by decide)⟩⟩
def cf_J1 : List (Nat × Nat × Nat) := []
def cn_J1 : List (Nat × Nat) := []
def cs_J1 : List (Nat × rf_AV) := []
def ck_J1 : List (Nat × Nat × rf_AV) := [(29, 6, (0, 0, Int.ofNat 6)), (31, 10, (0, 0, Int.ofNat 10))]
def ca_J1 : List Nat := []
theorem cx_J1 {p : Program} {l : Launch} {e : Env} {R : Room} {s : State} {m : MethodId} {args : Array Value} {below : List Frame} {meth : Method} {c : Code} {cc : ByteArray} {D : va_G} {tys : List (ClassId × FieldType)} {xt : Nat → Nat} {A : Nat → Prop} {c0 : Cond} {ML : List (Nat × Nat × Nat × List rf_SP)} {ini df : Bool} {nL RF RC RS RL : Nat} (hTY : rf_TY tys "LeftAsFound$Shelf") (hx : p.tables.exec = Jvm.exec) (hb : c.code = cc) (hml : c.maxLocals = nL) (hown : s.vm.findClass RJ1 = some m.cls) (hts : ∀ w ∈ c0 :: en_G, w.before args s = true) (hK : va_K D nm_cl tys s) (hN : en_N xt A s) (hA : ∀ q, s.heap.size ≤ q → A q) (hin : ini = true → meth.name = "<init>") (hML : ∀ q ∈ ML, rf_MLok p l e R s m args below meth c cc nL RJ1 D nm_cl tys xt (en_N xt) en_G q) (hR : RF ≤ R.frames ∧ RC ≤ R.cells ∧ RS ≤ R.slots ∧ RL ≤ R.locals) :
    rf_CT p l e R s m args below meth c cc RJ1 D nm_cl nm_ct tys xt en_xs (en_N xt) en_G en_G "LeftAsFound$Shelf" 8 A s.heap (cf_J1, cn_J1, cs_J1, ck_J1, ML, ca_J1, (99, ini, df), (nL, RF, RC, RS, RL)) := by
  have hw : ∀ w ∈ en_G, w.before args s = true := fun w h => hts w (List.mem_cons_of_mem _ h)
  have hV := hN.2.2.2.2.1.1
  have h3 : rf_SLok RJ1 cs_J1 xt A args s := (fun _ h => absurd h List.not_mem_nil)
  have h4 : ∀ q ∈ ck_J1, rf_LD p l e R s m args below meth c cc xt A s.heap q := List.forall_mem_cons.mpr ⟨cx_kr (k := 9) (len := 6) (f := fun j => (en_byt.getD 0 []).getD j 0) hx hb (hV 0 (by decide)).2.2.2 (by decide) (by decide), List.forall_mem_cons.mpr ⟨cx_kr (k := 10) (len := 10) (f := fun j => (en_byt.getD 1 []).getD j 0) hx hb (hV 1 (by decide)).2.2.2 (by decide) (by decide), (fun _ h => absurd h List.not_mem_nil)⟩⟩
  have h6 : ∀ t : ArrayType, rf_akd t ≤ 3 → (Cond.arrayClass (newarray.typeOf t)).before args s = true := by
    intro t ht
    cases t <;> first | exact hw _ (wi_J1_0 _ (List.mem_of_getElem? (i := 14) rfl)) | exact hw _ (wi_J1_0 _ (List.mem_of_getElem? (i := 15) rfl)) | exact hw _ (wi_J1_0 _ (List.mem_of_getElem? (i := 16) rfl)) | exact hw _ (wi_J1_0 _ (List.mem_of_getElem? (i := 17) rfl)) | exact absurd ht (by decide)
  exact ⟨⟨hx, hb, hml, hown, hw, en_CL⟩, ⟨hK, hTY, hA, rfl⟩, ⟨(fun _ h => absurd h List.not_mem_nil), (fun _ h => absurd h List.not_mem_nil), h3, h4, hML, (fun _ h => absurd h List.not_mem_nil)⟩, ⟨hN.1, hN.2.2.2.1, h6, en_Nok xt, hN⟩, hR, ⟨fun C hC => (by cases hC), hin, ⟨_, _, rfl⟩, fun h => absurd (show (99 : Nat) = 98 from h) (by decide)⟩⟩
