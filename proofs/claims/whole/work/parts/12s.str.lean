/-! ===== the words that the class writes out: their length, their letters ===== -/
def cd_y_coder : MethodName := ⟨"java/lang/String", "coder", "()B"⟩
def cd_r_coder : Option FieldType := some .byte
set_option maxRecDepth 100000 in
theorem cd_w_coder_c : Cond.code cd_y_coder prog_18_method_152_code 1 cd_r_coder ∈ cd_W := cd_isW_in (i := 649) (by decide +kernel)
set_option maxRecDepth 100000 in
theorem cd_w_coder_i : Cond.instanceMethod cd_y_coder ∈ cd_W := cd_isW_in (i := 647) (by decide +kernel)
set_option maxRecDepth 100000 in
theorem cd_w_coder_s : Cond.selects cd_y_coder.cls cd_y_coder cd_y_coder ∈ cd_W := cd_isW_in (i := 648) (by decide +kernel)
set_option maxRecDepth 100000 in
theorem cd_w_coder_n : Cond.initialized cd_y_coder.cls ∈ cd_W := cd_isW_in (i := 108) (by decide +kernel)
theorem cd_d_coder_0 : decode prog_18_method_152_code 0 = .ok (.getstatic 38, 3) := by decide +kernel
theorem cd_d_coder_3 : decode prog_18_method_152_code 3 = .ok (.ifCond .eq 10, 3) := by decide +kernel
theorem cd_d_coder_6 : decode prog_18_method_152_code 6 = .ok (.aload_n 0, 1) := by decide +kernel
theorem cd_d_coder_7 : decode prog_18_method_152_code 7 = .ok (.getfield 15, 3) := by decide +kernel
theorem cd_d_coder_10 : decode prog_18_method_152_code 10 = .ok (.goto 4, 3) := by decide +kernel
theorem cd_d_coder_13 : decode prog_18_method_152_code 13 = .ok (.iconst 1, 1) := by decide +kernel
theorem cd_d_coder_14 : decode prog_18_method_152_code 14 = .ok (.ireturn, 1) := by decide +kernel
def cd_y_slen : MethodName := ⟨"java/lang/String", "length", "()I"⟩
def cd_r_slen : Option FieldType := some .int
set_option maxRecDepth 100000 in
theorem cd_w_slen_c : Cond.code cd_y_slen prog_18_method_54_code 1 cd_r_slen ∈ cd_W := cd_isW_in (i := 645) (by decide +kernel)
set_option maxRecDepth 100000 in
theorem cd_w_slen_i : Cond.instanceMethod cd_y_slen ∈ cd_W := cd_isW_in (i := 643) (by decide +kernel)
set_option maxRecDepth 100000 in
theorem cd_w_slen_s : Cond.selects cd_y_slen.cls cd_y_slen cd_y_slen ∈ cd_W := cd_isW_in (i := 644) (by decide +kernel)
set_option maxRecDepth 100000 in
theorem cd_w_slen_n : Cond.initialized cd_y_slen.cls ∈ cd_W := cd_isW_in (i := 108) (by decide +kernel)
theorem cd_d_slen_0 : decode prog_18_method_54_code 0 = .ok (.aload_n 0, 1) := by decide +kernel
theorem cd_d_slen_1 : decode prog_18_method_54_code 1 = .ok (.getfield 9, 3) := by decide +kernel
theorem cd_d_slen_4 : decode prog_18_method_54_code 4 = .ok (.arraylength, 1) := by decide +kernel
theorem cd_d_slen_5 : decode prog_18_method_54_code 5 = .ok (.aload_n 0, 1) := by decide +kernel
theorem cd_d_slen_6 : decode prog_18_method_54_code 6 = .ok (.invokevirtual 335, 3) := by decide +kernel
theorem cd_d_slen_9 : decode prog_18_method_54_code 9 = .ok (.ishr, 1) := by decide +kernel
theorem cd_d_slen_10 : decode prog_18_method_54_code 10 = .ok (.ireturn, 1) := by decide +kernel
def cd_y_lat : MethodName := ⟨"java/lang/String", "isLatin1", "()Z"⟩
def cd_r_lat : Option FieldType := some .boolean
set_option maxRecDepth 100000 in
theorem cd_w_lat_c : Cond.code cd_y_lat prog_18_method_154_code 1 cd_r_lat ∈ cd_W := cd_isW_in (i := 659) (by decide +kernel)
set_option maxRecDepth 100000 in
theorem cd_w_lat_i : Cond.instanceMethod cd_y_lat ∈ cd_W := cd_isW_in (i := 657) (by decide +kernel)
set_option maxRecDepth 100000 in
theorem cd_w_lat_s : Cond.selects cd_y_lat.cls cd_y_lat cd_y_lat ∈ cd_W := cd_isW_in (i := 658) (by decide +kernel)
set_option maxRecDepth 100000 in
theorem cd_w_lat_n : Cond.initialized cd_y_lat.cls ∈ cd_W := cd_isW_in (i := 108) (by decide +kernel)
theorem cd_d_lat_0 : decode prog_18_method_154_code 0 = .ok (.getstatic 38, 3) := by decide +kernel
theorem cd_d_lat_3 : decode prog_18_method_154_code 3 = .ok (.ifCond .eq 14, 3) := by decide +kernel
theorem cd_d_lat_6 : decode prog_18_method_154_code 6 = .ok (.aload_n 0, 1) := by decide +kernel
theorem cd_d_lat_7 : decode prog_18_method_154_code 7 = .ok (.getfield 15, 3) := by decide +kernel
theorem cd_d_lat_10 : decode prog_18_method_154_code 10 = .ok (.ifCond .ne 7, 3) := by decide +kernel
theorem cd_d_lat_13 : decode prog_18_method_154_code 13 = .ok (.iconst 1, 1) := by decide +kernel
theorem cd_d_lat_14 : decode prog_18_method_154_code 14 = .ok (.goto 4, 3) := by decide +kernel
theorem cd_d_lat_17 : decode prog_18_method_154_code 17 = .ok (.iconst 0, 1) := by decide +kernel
theorem cd_d_lat_18 : decode prog_18_method_154_code 18 = .ok (.ireturn, 1) := by decide +kernel
def cd_y_pci : MethodName := ⟨"jdk/internal/util/Preconditions", "checkIndex", "(IILjava/util/function/BiFunction;)I"⟩
def cd_r_pci : Option FieldType := some .int
set_option maxRecDepth 100000 in
theorem cd_w_pci_c : Cond.code cd_y_pci prog_23_method_11_code 3 cd_r_pci ∈ cd_W := cd_isW_in (i := 670) (by decide +kernel)
set_option maxRecDepth 100000 in
theorem cd_w_pci_i : Cond.static cd_y_pci ∈ cd_W := cd_isW_in (i := 669) (by decide +kernel)
set_option maxRecDepth 100000 in
theorem cd_w_pci_n : Cond.initialized cd_y_pci.cls ∈ cd_W := cd_isW_in (i := 110) (by decide +kernel)
theorem cd_d_pci_0 : decode prog_23_method_11_code 0 = .ok (.iload_n 0, 1) := by decide +kernel
theorem cd_d_pci_1 : decode prog_23_method_11_code 1 = .ok (.ifCond .lt 8, 3) := by decide +kernel
theorem cd_d_pci_4 : decode prog_23_method_11_code 4 = .ok (.iload_n 0, 1) := by decide +kernel
theorem cd_d_pci_5 : decode prog_23_method_11_code 5 = .ok (.iload_n 1, 1) := by decide +kernel
theorem cd_d_pci_6 : decode prog_23_method_11_code 6 = .ok (.if_icmp .lt 10, 3) := by decide +kernel
theorem cd_d_pci_9 : decode prog_23_method_11_code 9 = .ok (.aload_n 2, 1) := by decide +kernel
theorem cd_d_pci_10 : decode prog_23_method_11_code 10 = .ok (.iload_n 0, 1) := by decide +kernel
theorem cd_d_pci_11 : decode prog_23_method_11_code 11 = .ok (.iload_n 1, 1) := by decide +kernel
theorem cd_d_pci_12 : decode prog_23_method_11_code 12 = .ok (.invokestatic 95, 3) := by decide +kernel
theorem cd_d_pci_16 : decode prog_23_method_11_code 16 = .ok (.iload_n 0, 1) := by decide +kernel
theorem cd_d_pci_17 : decode prog_23_method_11_code 17 = .ok (.ireturn, 1) := by decide +kernel
def cd_y_sci : MethodName := ⟨"java/lang/String", "checkIndex", "(II)V"⟩
def cd_r_sci : Option FieldType := none
set_option maxRecDepth 100000 in
theorem cd_w_sci_c : Cond.code cd_y_sci prog_18_method_155_code 2 cd_r_sci ∈ cd_W := cd_isW_in (i := 665) (by decide +kernel)
set_option maxRecDepth 100000 in
theorem cd_w_sci_i : Cond.static cd_y_sci ∈ cd_W := cd_isW_in (i := 664) (by decide +kernel)
set_option maxRecDepth 100000 in
theorem cd_w_sci_n : Cond.initialized cd_y_sci.cls ∈ cd_W := cd_isW_in (i := 108) (by decide +kernel)
theorem cd_d_sci_0 : decode prog_18_method_155_code 0 = .ok (.iload_n 0, 1) := by decide +kernel
theorem cd_d_sci_1 : decode prog_18_method_155_code 1 = .ok (.iload_n 1, 1) := by decide +kernel
theorem cd_d_sci_2 : decode prog_18_method_155_code 2 = .ok (.getstatic 1053, 3) := by decide +kernel
theorem cd_d_sci_5 : decode prog_18_method_155_code 5 = .ok (.invokestatic 1059, 3) := by decide +kernel
theorem cd_d_sci_8 : decode prog_18_method_155_code 8 = .ok (.pop, 1) := by decide +kernel
theorem cd_d_sci_9 : decode prog_18_method_155_code 9 = .ok (.return_, 1) := by decide +kernel
def cd_y_lca : MethodName := ⟨"java/lang/StringLatin1", "charAt", "([BI)C"⟩
def cd_r_lca : Option FieldType := some .char
set_option maxRecDepth 100000 in
theorem cd_w_lca_c : Cond.code cd_y_lca prog_19_method_2_code 2 cd_r_lca ∈ cd_W := cd_isW_in (i := 662) (by decide +kernel)
set_option maxRecDepth 100000 in
theorem cd_w_lca_i : Cond.static cd_y_lca ∈ cd_W := cd_isW_in (i := 661) (by decide +kernel)
set_option maxRecDepth 100000 in
theorem cd_w_lca_n : Cond.initialized cd_y_lca.cls ∈ cd_W := cd_isW_in (i := 109) (by decide +kernel)
theorem cd_d_lca_0 : decode prog_19_method_2_code 0 = .ok (.iload_n 1, 1) := by decide +kernel
theorem cd_d_lca_1 : decode prog_19_method_2_code 1 = .ok (.aload_n 0, 1) := by decide +kernel
theorem cd_d_lca_2 : decode prog_19_method_2_code 2 = .ok (.arraylength, 1) := by decide +kernel
theorem cd_d_lca_3 : decode prog_19_method_2_code 3 = .ok (.invokestatic 9, 3) := by decide +kernel
theorem cd_d_lca_6 : decode prog_19_method_2_code 6 = .ok (.aload_n 0, 1) := by decide +kernel
theorem cd_d_lca_7 : decode prog_19_method_2_code 7 = .ok (.iload_n 1, 1) := by decide +kernel
theorem cd_d_lca_8 : decode prog_19_method_2_code 8 = .ok (.baload, 1) := by decide +kernel
theorem cd_d_lca_9 : decode prog_19_method_2_code 9 = .ok (.sipush 255, 3) := by decide +kernel
theorem cd_d_lca_12 : decode prog_19_method_2_code 12 = .ok (.iand, 1) := by decide +kernel
theorem cd_d_lca_13 : decode prog_19_method_2_code 13 = .ok (.i2c, 1) := by decide +kernel
theorem cd_d_lca_14 : decode prog_19_method_2_code 14 = .ok (.ireturn, 1) := by decide +kernel
def cd_y_sca : MethodName := ⟨"java/lang/String", "charAt", "(I)C"⟩
def cd_r_sca : Option FieldType := some .char
set_option maxRecDepth 100000 in
theorem cd_w_sca_c : Cond.code cd_y_sca prog_18_method_56_code 2 cd_r_sca ∈ cd_W := cd_isW_in (i := 655) (by decide +kernel)
set_option maxRecDepth 100000 in
theorem cd_w_sca_i : Cond.instanceMethod cd_y_sca ∈ cd_W := cd_isW_in (i := 653) (by decide +kernel)
set_option maxRecDepth 100000 in
theorem cd_w_sca_s : Cond.selects cd_y_sca.cls cd_y_sca cd_y_sca ∈ cd_W := cd_isW_in (i := 654) (by decide +kernel)
set_option maxRecDepth 100000 in
theorem cd_w_sca_n : Cond.initialized cd_y_sca.cls ∈ cd_W := cd_isW_in (i := 108) (by decide +kernel)
theorem cd_d_sca_0 : decode prog_18_method_56_code 0 = .ok (.aload_n 0, 1) := by decide +kernel
theorem cd_d_sca_1 : decode prog_18_method_56_code 1 = .ok (.invokevirtual 492, 3) := by decide +kernel
theorem cd_d_sca_4 : decode prog_18_method_56_code 4 = .ok (.ifCond .eq 12, 3) := by decide +kernel
theorem cd_d_sca_7 : decode prog_18_method_56_code 7 = .ok (.aload_n 0, 1) := by decide +kernel
theorem cd_d_sca_8 : decode prog_18_method_56_code 8 = .ok (.getfield 9, 3) := by decide +kernel
theorem cd_d_sca_11 : decode prog_18_method_56_code 11 = .ok (.iload_n 1, 1) := by decide +kernel
theorem cd_d_sca_12 : decode prog_18_method_56_code 12 = .ok (.invokestatic 495, 3) := by decide +kernel
theorem cd_d_sca_15 : decode prog_18_method_56_code 15 = .ok (.ireturn, 1) := by decide +kernel
theorem cd_d_sca_16 : decode prog_18_method_56_code 16 = .ok (.aload_n 0, 1) := by decide +kernel
theorem cd_d_sca_17 : decode prog_18_method_56_code 17 = .ok (.getfield 9, 3) := by decide +kernel
theorem cd_d_sca_20 : decode prog_18_method_56_code 20 = .ok (.iload_n 1, 1) := by decide +kernel
theorem cd_d_sca_21 : decode prog_18_method_56_code 21 = .ok (.invokestatic 498, 3) := by decide +kernel
theorem cd_d_sca_24 : decode prog_18_method_56_code 24 = .ok (.ireturn, 1) := by decide +kernel
set_option maxRecDepth 100000 in
theorem cd_w_f38 : Cond.fieldLink "java/lang/String" 38 "java/lang/String" "COMPACT_STRINGS" "Z" ∈ cd_W := cd_isW_in (i := 650) (by decide +kernel)
set_option maxRecDepth 100000 in
theorem cd_w_f15 : Cond.fieldLink "java/lang/String" 15 "java/lang/String" "coder" "B" ∈ cd_W := cd_isW_in (i := 1836) (by decide +kernel)
set_option maxRecDepth 100000 in
theorem cd_w_f9 : Cond.fieldLink "java/lang/String" 9 "java/lang/String" "value" "[B" ∈ cd_W := cd_isW_in (i := 1835) (by decide +kernel)
set_option maxRecDepth 100000 in
theorem cd_w_f1053 : Cond.fieldLink "java/lang/String" 1053 "jdk/internal/util/Preconditions" "SIOOBE_FORMATTER" "Ljava/util/function/BiFunction;" ∈ cd_W := cd_isW_in (i := 666) (by decide +kernel)
set_option maxRecDepth 100000 in
theorem cd_w_m335 : Cond.methodLink "java/lang/String" 335 cd_y_coder ∈ cd_W := cd_isW_in (i := 646) (by decide +kernel)
set_option maxRecDepth 100000 in
theorem cd_w_m492 : Cond.methodLink "java/lang/String" 492 cd_y_lat ∈ cd_W := cd_isW_in (i := 656) (by decide +kernel)
set_option maxRecDepth 100000 in
theorem cd_w_m495 : Cond.methodLink "java/lang/String" 495 cd_y_lca ∈ cd_W := cd_isW_in (i := 660) (by decide +kernel)
set_option maxRecDepth 100000 in
theorem cd_w_m9 : Cond.methodLink "java/lang/StringLatin1" 9 cd_y_sci ∈ cd_W := cd_isW_in (i := 663) (by decide +kernel)
set_option maxRecDepth 100000 in
theorem cd_w_m1059 : Cond.methodLink "java/lang/String" 1059 cd_y_pci ∈ cd_W := cd_isW_in (i := 668) (by decide +kernel)
def cd_SE (G : cd_G) (s : State) (H : Heap) : Prop := vk_S 15 cd_len cd_byt (fun i => cd_ad G (1000 + i)) G.2.2.2.2.2.1 (cd_A G) s H ∧ va_Z "java/lang/String" "COMPACT_STRINGS" "Z" (.int 1) (cd_A G) s H ∧ va_Zq "jdk/internal/util/Preconditions" "SIOOBE_FORMATTER" "Ljava/util/function/BiFunction;" (cd_A G) s H
theorem cd_SE.at {G : cd_G} {s U : State} {H : Heap} {locs : List Loc} (h : cd_SE G s s.heap) (hS : va_S (cd_A G) s.heap H locs) (hU : U.heap = H) (hW : s.WarmedH U.vm) : cd_SE G U U.heap := by
  subst hU
  obtain ⟨h1, h2, h3⟩ := h
  exact ⟨(vk_S.moved hW.alike h1).kept hS.2.1, (va_Z.moved hW.alike h2).kept hS.2.1, (va_Zq.moved hW.alike h3).kept hS.2.1⟩
theorem cd_SE.blind {G : cd_G} {U : State} (g : JFrame) (mk : MethodId) (a : Array Value) (h : cd_SE G U U.heap) : cd_SE G (U.calling g mk a) (U.calling g mk a).heap := by
  obtain ⟨h1, h2, h3⟩ := h
  have hA : U.vm.Alike (U.calling g mk a).vm := Vm.Alike.refl _
  exact ⟨vk_S.moved hA h1, va_Z.moved hA h2, va_Zq.moved hA h3⟩
def cd_Qp (post : Option Value → Prop) : Array Value → State → Outcome → State → Prop := fun _ st o t => ∃ v, o = .returned v ∧ post v ∧ t.heap = st.heap
def cd_wq (y : MethodName) (cc : ByteArray) (n : Nat) (r : Option FieldType) : List Cond := Cond.code y cc n r :: cd_W
abbrev cd_rq (f n : Nat) : Room := { frames := f, cells := 0, slots := 0, locals := n }
theorem cd_wq_good {y : MethodName} {cc : ByteArray} {n : Nat} {r : Option FieldType} (h : Cond.code y cc n r ∈ cd_W) : GoodIn cd_W (cd_wq y cc n r) := by
  intro w hw
  rcases List.mem_cons.mp hw with rfl | hw
  · exact ⟨h, cd_W_good h⟩
  · exact ⟨hw, cd_W_good hw⟩
section CDT
variable {p : Program} {l : Launch} {e : Env} {R : Room} {s : State} {m : MethodId} {args : Array Value} {below : List Frame} {meth : Method} {c : Code} {Q : State → Prop} {G : cd_G} {H : Heap} {locs : List Loc} {cells slots : Nat}
theorem cd_afterS {pc : Nat} {lr : Array Slot} {st0 rest : List Value} {post : Option Value → Prop} {a : Array Value} (hr : va_Run p l e R s m args below meth c H locs cells slots 0 0 (F0 m pc lr st0) rest (cd_Qp post a) (fun _ => False))
    (kk : ∀ v, post v → W p l e R s m args below meth c H locs cells slots Q (F0 m (pc + 3) lr (v.toList ++ rest))) : W p l e R s m args below meth c H locs cells slots Q (F0 m pc lr st0) := by
  intro T hT X
  obtain ⟨v, st₀, t, T', L, h0, X', hL, e1, e2, ⟨r, hv, hp, hh⟩, st⟩ := hr T hT X
  cases hv
  have hL0 : L = [] := by
    cases L with
    | nil => rfl
    | cons a b => exact absurd (hL a List.mem_cons_self) id
  subst hL0
  rw [List.append_nil] at X'
  obtain ⟨t2, a1, b1⟩ := kk v hp T' (by rw [e1, hh, h0]) X'
  exact ⟨t2, st t2 a1, b1⟩
theorem cd_runV {y : MethodName} {cc cb : ByteArray} {nL n i f lo k : Nat} {own : String} {b : Addr} {As rest : List Value} {r : Option FieldType} {post : Option Value → Prop} {pc : Nat} {lr : Array Slot} (S : CallFix p m c cc nL s args cd_W own) (hS : va_S (cd_A G) s.heap H locs) (hE : cd_SE G s s.heap) (hM : Met l y (cd_wq y cb n r) (cd_rq f lo) (va_Pc (.ref b :: As) (fun U => cd_SE G U U.heap)) (cd_Qp post) 0 0 (fun _ => False)) (hc : Cond.code y cb n r ∈ cd_W) (hi : Cond.instanceMethod y ∈ cd_W) (hs : Cond.selects y.cls y y ∈ cd_W) (hn : Cond.initialized y.cls ∈ cd_W) (hl : Cond.methodLink own i y ∈ cd_W) (hd2 : y.cls ≠ "java/lang/invoke/MethodHandle" ∧ y.cls ≠ "java/lang/invoke/VarHandle" ∧ (parseMethodDescriptor y.desc).map (fun d => d.parameters.length) = some k) (hk : As.length = k) (hR : f + 1 ≤ R.frames ∧ 8 + (n + 11) + lo ≤ R.locals)
    (hcell : ∃ cell : Cell, H[b]? = some cell ∧ cell.vm.isStatics = false ∧ s.vm.findClass y.cls = some cell.cls) (hsz : lr.size = nL) (hcat : (rest.map fun v => v.category).sum ≤ 8) (hd : decode cc pc = .ok (.invokevirtual i, 3)) (hC : cells ≤ R.cells) (hSl : slots ≤ R.slots)
    (kk : ∀ v, post v → W p l e R s m args below meth c H locs cells slots Q (F0 m (pc + 3) lr (v.toList ++ rest))) : W p l e R s m args below meth c H locs cells slots Q (F0 m pc lr (As.reverse ++ .ref b :: rest)) :=
  cd_afterS (va_runV (As := As) (rest := rest) (bytes := cb) (maxL := n) (ret := r) S hM ⟨callB_of k S.2.2.2.2 (cd_wq_good hc) rfl rfl rfl (S.2.2.2.2 _ hn) (S.2.2.2.2 _ hl) hd2 hR, S.2.2.2.2 _ hi, S.2.2.2.2 _ hs⟩ ⟨fun _ _ g mk h => ⟨h.1, h.2.blind g mk _⟩, hcell, fun U hU hW => ⟨rfl, hE.at hS hU hW⟩⟩ rfl hk hsz rfl (lv_room hcat) hd ⟨by omega, by omega⟩) kk
theorem cd_runS {y : MethodName} {cc cb : ByteArray} {nL n i f lo k : Nat} {own : String} {As rest : List Value} {r : Option FieldType} {post : Option Value → Prop} {pc : Nat} {lr : Array Slot} (S : CallFix p m c cc nL s args cd_W own) (hS : va_S (cd_A G) s.heap H locs) (hE : cd_SE G s s.heap) (hM : Met l y (cd_wq y cb n r) (cd_rq f lo) (va_Pc As (fun U => cd_SE G U U.heap)) (cd_Qp post) 0 0 (fun _ => False)) (hc : Cond.code y cb n r ∈ cd_W) (hi : Cond.static y ∈ cd_W) (hn : Cond.initialized y.cls ∈ cd_W) (hl : Cond.methodLink own i y ∈ cd_W) (hd2 : y.cls ≠ "java/lang/invoke/MethodHandle" ∧ y.cls ≠ "java/lang/invoke/VarHandle" ∧ (parseMethodDescriptor y.desc).map (fun d => d.parameters.length) = some k) (hk : As.length = k) (hR : f + 1 ≤ R.frames ∧ 8 + (n + 11) + lo ≤ R.locals)
    (hsz : lr.size = nL) (hcat : (rest.map fun v => v.category).sum ≤ 8) (hd : decode cc pc = .ok (.invokestatic i, 3)) (hC : cells ≤ R.cells) (hSl : slots ≤ R.slots)
    (kk : ∀ v, post v → W p l e R s m args below meth c H locs cells slots Q (F0 m (pc + 3) lr (v.toList ++ rest))) : W p l e R s m args below meth c H locs cells slots Q (F0 m pc lr (As.reverse ++ rest)) :=
  cd_afterS (va_runS (As := As) (rest := rest) (bytes := cb) (maxL := n) (ret := r) S hM ⟨callB_of k S.2.2.2.2 (cd_wq_good hc) rfl rfl rfl (S.2.2.2.2 _ hn) (S.2.2.2.2 _ hl) hd2 hR, S.2.2.2.2 _ hi⟩ ⟨fun _ _ g mk h => ⟨h.1, h.2.blind g mk _⟩, fun U hU hW => ⟨rfl, hE.at hS hU hW⟩⟩ rfl hk hsz rfl (lv_room hcat) hd ⟨by omega, by omega⟩) kk
end CDT
theorem cd_nI_of {j : Int32} (h : ¬ j < 0) : j = nI j.toNatClampNeg := by
  obtain ⟨k, hk, rfl⟩ := nI_of h
  rw [nI_clamp hk]
theorem cd_str_fact0 : (List.range 15).all (fun i => decide (cd_len.getD i 0 < 100) && (List.range (cd_len.getD i 0)).all (fun k => decide (((((cd_byt.getD i []).getD k 0 &&& 255).toUInt32 % 65536).toInt32 : Int32) = Int32.ofNat ((cd_strs.getD i []).getD k 0)) && decide (narrow .char (.int (Int32.ofNat ((cd_strs.getD i []).getD k 0))) = .int (Int32.ofNat ((cd_strs.getD i []).getD k 0))))) = true := by decide +kernel
theorem cd_str_fact (i : Nat) (hi : i < 15) : cd_len.getD i 0 < 100 ∧ ∀ k, k < cd_len.getD i 0 → (((cd_byt.getD i []).getD k 0 &&& 255).toUInt32 % 65536).toInt32 = Int32.ofNat ((cd_strs.getD i []).getD k 0) ∧ narrow .char (.int (Int32.ofNat ((cd_strs.getD i []).getD k 0))) = .int (Int32.ofNat ((cd_strs.getD i []).getD k 0)) := by
  have h := List.all_eq_true.mp cd_str_fact0 i (List.mem_range.mpr hi)
  rw [Bool.and_eq_true, decide_eq_true_eq] at h
  refine ⟨h.1, fun k hk => ?_⟩
  have h2 := List.all_eq_true.mp h.2 k (List.mem_range.mpr hk)
  simpa only [Bool.and_eq_true, decide_eq_true_eq] using h2
set_option maxHeartbeats 4000000 in
theorem cd_t_coder (l : Launch) (G : cd_G) (i : Nat) (hi : i < 15) : Met l cd_y_coder (cd_wq cd_y_coder prog_18_method_152_code 1 cd_r_coder) (cd_rq 0 0) (va_Pc [.ref (cd_ad G (1000 + i))] (fun U => cd_SE G U U.heap)) (cd_Qp (fun v => v = some (.int 0))) 0 0 (fun _ => False) := by
  refine Met.ofW (cc := prog_18_method_152_code) (maxL := 1) (ret := cd_r_coder) (by decide) rfl ?_
  intro p e s m args below meth c s₁ B hml hv
  obtain ⟨rfl, hE⟩ := hv
  have hx := B.exec
  have hb := B.bytes
  have hr := B.returns
  have hw : ∀ w ∈ cd_W, w.before ([.ref (cd_ad G (1000 + i))] : List Value).toArray s = true := fun w hw => atoms_spec (ws := cd_wq cd_y_coder prog_18_method_152_code 1 cd_r_coder) B.pre w (List.mem_cons_of_mem _ hw)
  have hown : s.vm.findClass "java/lang/String" = some m.cls := findClass_of_methodNamed B.named
  have hS : va_S (cd_A G) s.heap s.heap [] := va_S.rf
  have hl := lv_entry ([.ref (cd_ad G (1000 + i))]) (n := 1) (Nat.le_of_ble_eq_true rfl)
  rw [lg_entry_eq]
  generalize (lg_sl ([.ref (cd_ad G (1000 + i))]) ++ List.replicate (1 - (lg_sl ([.ref (cd_ad G (1000 + i))])).length) Slot.unset).toArray = lr at hl ⊢
  have hl : lv_has lr 1 [(0, .ref (cd_ad G (1000 + i)))] := hl
  refine va_gets hx hb hE.2.1 hS hown (hw _ cd_w_f38) (fun _ h => h) cd_d_coder_0 ?_
  refine lv_if_eq (tgt := 13) hx hb cd_d_coder_3 (by decide) (fun h => absurd h (by decide)) (fun _ => ?_)
  refine lv_aload_n hx hb cd_d_coder_6 rfl (lv_at hl 0 rfl) ?_
  refine vk_getf hx hb (hE.1.1 i hi).2.1 hS hown (hw _ cd_w_f15) (fun _ h => h) cd_d_coder_7 ?_
  refine lv_goto (tgt := 14) hx hb cd_d_coder_10 (by decide) ?_
  exact W.zret (Qc := cd_Qp (fun v => v = some (.int (0)))) (free := fun _ => False) (v := 0) (ty := .byte) hx hb hr (by rfl) (fun t ht hW => ⟨some (.int (0)), rfl, rfl, ht⟩) (fun q hq => by cases hq) cd_d_coder_14 B.notSynchronized
set_option maxHeartbeats 4000000 in
theorem cd_t_lat (l : Launch) (G : cd_G) (i : Nat) (hi : i < 15) : Met l cd_y_lat (cd_wq cd_y_lat prog_18_method_154_code 1 cd_r_lat) (cd_rq 0 0) (va_Pc [.ref (cd_ad G (1000 + i))] (fun U => cd_SE G U U.heap)) (cd_Qp (fun v => v = some (.int 1))) 0 0 (fun _ => False) := by
  refine Met.ofW (cc := prog_18_method_154_code) (maxL := 1) (ret := cd_r_lat) (by decide) rfl ?_
  intro p e s m args below meth c s₁ B hml hv
  obtain ⟨rfl, hE⟩ := hv
  have hx := B.exec
  have hb := B.bytes
  have hr := B.returns
  have hw : ∀ w ∈ cd_W, w.before ([.ref (cd_ad G (1000 + i))] : List Value).toArray s = true := fun w hw => atoms_spec (ws := cd_wq cd_y_lat prog_18_method_154_code 1 cd_r_lat) B.pre w (List.mem_cons_of_mem _ hw)
  have hown : s.vm.findClass "java/lang/String" = some m.cls := findClass_of_methodNamed B.named
  have hS : va_S (cd_A G) s.heap s.heap [] := va_S.rf
  have hl := lv_entry ([.ref (cd_ad G (1000 + i))]) (n := 1) (Nat.le_of_ble_eq_true rfl)
  rw [lg_entry_eq]
  generalize (lg_sl ([.ref (cd_ad G (1000 + i))]) ++ List.replicate (1 - (lg_sl ([.ref (cd_ad G (1000 + i))])).length) Slot.unset).toArray = lr at hl ⊢
  have hl : lv_has lr 1 [(0, .ref (cd_ad G (1000 + i)))] := hl
  refine va_gets hx hb hE.2.1 hS hown (hw _ cd_w_f38) (fun _ h => h) cd_d_lat_0 ?_
  refine lv_if_eq (tgt := 17) hx hb cd_d_lat_3 (by decide) (fun h => absurd h (by decide)) (fun _ => ?_)
  refine lv_aload_n hx hb cd_d_lat_6 rfl (lv_at hl 0 rfl) ?_
  refine vk_getf hx hb (hE.1.1 i hi).2.1 hS hown (hw _ cd_w_f15) (fun _ h => h) cd_d_lat_7 ?_
  refine lv_if_ne (tgt := 17) hx hb cd_d_lat_10 (by decide) (fun h => absurd rfl h) (fun _ => ?_)
  refine lv_iconst (v := 1) hx hb cd_d_lat_13 (by decide) ?_
  refine lv_goto (tgt := 18) hx hb cd_d_lat_14 (by decide) ?_
  exact W.zret (Qc := cd_Qp (fun v => v = some (.int (1)))) (free := fun _ => False) (v := 1) (ty := .boolean) hx hb hr (by rfl) (fun t ht hW => ⟨some (.int (1)), rfl, rfl, ht⟩) (fun q hq => by cases hq) cd_d_lat_18 B.notSynchronized
set_option maxHeartbeats 4000000 in
theorem cd_t_slen (l : Launch) (G : cd_G) (i : Nat) (hi : i < 15) : Met l cd_y_slen (cd_wq cd_y_slen prog_18_method_54_code 1 cd_r_slen) (cd_rq 1 20) (va_Pc [.ref (cd_ad G (1000 + i))] (fun U => cd_SE G U U.heap)) (cd_Qp (fun v => v = some (.int (Int32.ofNat (cd_len.getD i 0))))) 0 0 (fun _ => False) := by
  refine Met.ofW (cc := prog_18_method_54_code) (maxL := 1) (ret := cd_r_slen) (by decide) rfl ?_
  intro p e s m args below meth c s₁ B hml hv
  obtain ⟨rfl, hE⟩ := hv
  have hx := B.exec
  have hb := B.bytes
  have hr := B.returns
  have hw : ∀ w ∈ cd_W, w.before ([.ref (cd_ad G (1000 + i))] : List Value).toArray s = true := fun w hw => atoms_spec (ws := cd_wq cd_y_slen prog_18_method_54_code 1 cd_r_slen) B.pre w (List.mem_cons_of_mem _ hw)
  have hown : s.vm.findClass "java/lang/String" = some m.cls := findClass_of_methodNamed B.named
  have hS : va_S (cd_A G) s.heap s.heap [] := va_S.rf
  have hl := lv_entry ([.ref (cd_ad G (1000 + i))]) (n := 1) (Nat.le_of_ble_eq_true rfl)
  rw [lg_entry_eq]
  generalize (lg_sl ([.ref (cd_ad G (1000 + i))]) ++ List.replicate (1 - (lg_sl ([.ref (cd_ad G (1000 + i))])).length) Slot.unset).toArray = lr at hl ⊢
  have hl : lv_has lr 1 [(0, .ref (cd_ad G (1000 + i)))] := hl
  refine lv_aload_n hx hb cd_d_slen_0 rfl (lv_at hl 0 rfl) ?_
  refine vk_getf hx hb (hE.1.1 i hi).2.2.1 hS hown (hw _ cd_w_f9) (fun _ h => h) cd_d_slen_1 ?_
  refine va_tlen hx hb (hE.1.1 i hi).2.2.2 hS rfl cd_d_slen_4 ?_
  refine lv_aload_n hx hb cd_d_slen_5 rfl (lv_at hl 0 rfl) ?_
  refine cd_runV (As := []) (rest := [.int (Int32.ofNat (cd_len.getD i 0))]) (k := 0) (own := "java/lang/String") (G := G) ⟨hx, hb, hml, hown, hw⟩ hS hE (cd_t_coder l G i hi) cd_w_coder_c cd_w_coder_i cd_w_coder_s cd_w_coder_n cd_w_m335 (by decide +kernel) rfl ⟨Nat.le_refl _, Nat.le_refl _⟩ (vk_recv (adK := fun i => cd_ad G (1000 + i)) (i := i) hE.1 hi hS) hl.1 (by show 1 + 0 ≤ 8; omega) cd_d_slen_6 (Nat.zero_le _) (Nat.zero_le _) ?_
  rintro v rfl
  refine lv_ishr hx hb cd_d_slen_9 ?_
  have e0 : ∀ x : Int32, x >>> ((0 : Int32) &&& 31) = x := fun x => by
    rw [show ((0 : Int32) &&& 31) = 0 by decide]
    exact Int32.shiftRight_zero
  rw [e0]
  exact W.iret (Qc := cd_Qp (fun v => v = some (.int (Int32.ofNat (cd_len.getD i 0))))) (free := fun _ => False) (v := Int32.ofNat (cd_len.getD i 0)) hx hb hr (fun t ht hW => ⟨some (.int (Int32.ofNat (cd_len.getD i 0))), rfl, rfl, ht⟩) (fun q hq => by cases hq) cd_d_slen_10 B.notSynchronized
set_option maxHeartbeats 4000000 in
theorem cd_t_pci (l : Launch) (G : cd_G) (j n : Int32) (t : Nat) (h0 : ¬ j < 0) (hn : j < n) : Met l cd_y_pci (cd_wq cd_y_pci prog_23_method_11_code 3 cd_r_pci) (cd_rq 0 0) (va_Pc [.int j, .int n, .ref t] (fun U => cd_SE G U U.heap)) (cd_Qp (fun v => v = some (.int j))) 0 0 (fun _ => False) := by
  refine Met.ofW (cc := prog_23_method_11_code) (maxL := 3) (ret := cd_r_pci) (by decide) rfl ?_
  intro p e s m args below meth c s₁ B hml hv
  obtain ⟨rfl, hE⟩ := hv
  have hx := B.exec
  have hb := B.bytes
  have hr := B.returns
  have hw : ∀ w ∈ cd_W, w.before ([.int j, .int n, .ref t] : List Value).toArray s = true := fun w hw => atoms_spec (ws := cd_wq cd_y_pci prog_23_method_11_code 3 cd_r_pci) B.pre w (List.mem_cons_of_mem _ hw)
  have hown : s.vm.findClass "jdk/internal/util/Preconditions" = some m.cls := findClass_of_methodNamed B.named
  have hS : va_S (cd_A G) s.heap s.heap [] := va_S.rf
  have hl := lv_entry ([.int j, .int n, .ref t]) (n := 3) (Nat.le_of_ble_eq_true rfl)
  rw [lg_entry_eq]
  generalize (lg_sl ([.int j, .int n, .ref t]) ++ List.replicate (3 - (lg_sl ([.int j, .int n, .ref t])).length) Slot.unset).toArray = lr at hl ⊢
  have hl : lv_has lr 3 [(0, .int j), (1, .int n), (2, .ref t)] := hl
  refine lv_iload_n hx hb cd_d_pci_0 rfl (lv_at hl 0 rfl) ?_
  refine lv_if_lt (tgt := 9) hx hb cd_d_pci_1 (by decide) (fun h => absurd h h0) (fun _ => ?_)
  refine lv_iload_n hx hb cd_d_pci_4 rfl (lv_at hl 0 rfl) ?_
  refine lv_iload_n hx hb cd_d_pci_5 rfl (lv_at hl 1 rfl) ?_
  refine lv_icmp_lt (tgt := 16) hx hb cd_d_pci_6 (by decide) (fun _ => ?_) (fun h => absurd hn h)
  refine lv_iload_n hx hb cd_d_pci_16 rfl (lv_at hl 0 rfl) ?_
  exact W.iret (Qc := cd_Qp (fun v => v = some (.int (j)))) (free := fun _ => False) (v := j) hx hb hr (fun t ht hW => ⟨some (.int (j)), rfl, rfl, ht⟩) (fun q hq => by cases hq) cd_d_pci_17 B.notSynchronized
set_option maxHeartbeats 4000000 in
theorem cd_t_pcn (l : Launch) (G : cd_G) (j n : Int32) (h0 : ¬ j < 0) (hn : j < n) : Met l cd_y_pci (cd_wq cd_y_pci prog_23_method_11_code 3 cd_r_pci) (cd_rq 0 0) (va_Pc [.int j, .int n, .null] (fun U => cd_SE G U U.heap)) (cd_Qp (fun v => v = some (.int j))) 0 0 (fun _ => False) := by
  refine Met.ofW (cc := prog_23_method_11_code) (maxL := 3) (ret := cd_r_pci) (by decide) rfl ?_
  intro p e s m args below meth c s₁ B hml hv
  obtain ⟨rfl, hE⟩ := hv
  have hx := B.exec
  have hb := B.bytes
  have hr := B.returns
  have hw : ∀ w ∈ cd_W, w.before ([.int j, .int n, .null] : List Value).toArray s = true := fun w hw => atoms_spec (ws := cd_wq cd_y_pci prog_23_method_11_code 3 cd_r_pci) B.pre w (List.mem_cons_of_mem _ hw)
  have hown : s.vm.findClass "jdk/internal/util/Preconditions" = some m.cls := findClass_of_methodNamed B.named
  have hS : va_S (cd_A G) s.heap s.heap [] := va_S.rf
  have hl := lv_entry ([.int j, .int n, .null]) (n := 3) (Nat.le_of_ble_eq_true rfl)
  rw [lg_entry_eq]
  generalize (lg_sl ([.int j, .int n, .null]) ++ List.replicate (3 - (lg_sl ([.int j, .int n, .null])).length) Slot.unset).toArray = lr at hl ⊢
  have hl : lv_has lr 3 [(0, .int j), (1, .int n), (2, .null)] := hl
  refine lv_iload_n hx hb cd_d_pci_0 rfl (lv_at hl 0 rfl) ?_
  refine lv_if_lt (tgt := 9) hx hb cd_d_pci_1 (by decide) (fun h => absurd h h0) (fun _ => ?_)
  refine lv_iload_n hx hb cd_d_pci_4 rfl (lv_at hl 0 rfl) ?_
  refine lv_iload_n hx hb cd_d_pci_5 rfl (lv_at hl 1 rfl) ?_
  refine lv_icmp_lt (tgt := 16) hx hb cd_d_pci_6 (by decide) (fun _ => ?_) (fun h => absurd hn h)
  refine lv_iload_n hx hb cd_d_pci_16 rfl (lv_at hl 0 rfl) ?_
  exact W.iret (Qc := cd_Qp (fun v => v = some (.int (j)))) (free := fun _ => False) (v := j) hx hb hr (fun t ht hW => ⟨some (.int (j)), rfl, rfl, ht⟩) (fun q hq => by cases hq) cd_d_pci_17 B.notSynchronized
set_option maxHeartbeats 4000000 in
theorem cd_t_sci (l : Launch) (G : cd_G) (j n : Int32) (h0 : ¬ j < 0) (hn : j < n) : Met l cd_y_sci (cd_wq cd_y_sci prog_18_method_155_code 2 cd_r_sci) (cd_rq 1 22) (va_Pc [.int j, .int n] (fun U => cd_SE G U U.heap)) (cd_Qp (fun v => v = none)) 0 0 (fun _ => False) := by
  refine Met.ofW (cc := prog_18_method_155_code) (maxL := 2) (ret := cd_r_sci) (by decide) rfl ?_
  intro p e s m args below meth c s₁ B hml hv
  obtain ⟨rfl, hE⟩ := hv
  have hx := B.exec
  have hb := B.bytes
  have hr := B.returns
  have hw : ∀ w ∈ cd_W, w.before ([.int j, .int n] : List Value).toArray s = true := fun w hw => atoms_spec (ws := cd_wq cd_y_sci prog_18_method_155_code 2 cd_r_sci) B.pre w (List.mem_cons_of_mem _ hw)
  have hown : s.vm.findClass "java/lang/String" = some m.cls := findClass_of_methodNamed B.named
  have hS : va_S (cd_A G) s.heap s.heap [] := va_S.rf
  have hl := lv_entry ([.int j, .int n]) (n := 2) (Nat.le_of_ble_eq_true rfl)
  rw [lg_entry_eq]
  generalize (lg_sl ([.int j, .int n]) ++ List.replicate (2 - (lg_sl ([.int j, .int n])).length) Slot.unset).toArray = lr at hl ⊢
  have hl : lv_has lr 2 [(0, .int j), (1, .int n)] := hl
  refine lv_iload_n hx hb cd_d_sci_0 rfl (lv_at hl 0 rfl) ?_
  refine lv_iload_n hx hb cd_d_sci_1 rfl (lv_at hl 1 rfl) ?_
  rcases hE.2.2 with hZ | ⟨t, hZ⟩
  · refine va_gets hx hb hZ hS hown (hw _ cd_w_f1053) (fun _ h => h) cd_d_sci_2 ?_
    refine cd_runS (As := [.int j, .int n, .null]) (rest := []) (k := 3) (own := "java/lang/String") (G := G) ⟨hx, hb, hml, hown, hw⟩ hS hE (cd_t_pcn l G j n h0 hn) cd_w_pci_c cd_w_pci_i cd_w_pci_n cd_w_m1059 (by decide +kernel) rfl ⟨Nat.le_refl _, Nat.le_refl _⟩ hl.1 (by show 0 ≤ 8; omega) cd_d_sci_5 (Nat.zero_le _) (Nat.zero_le _) ?_
    rintro v rfl
    refine lv_pop hx hb cd_d_sci_8 rfl ?_
    exact W.vret (Qc := cd_Qp (fun v => v = none)) (free := fun _ => False) hx hb hr (fun t ht hW => ⟨none, rfl, rfl, ht⟩) (fun q hq => by cases hq) cd_d_sci_9 B.notSynchronized
  · refine va_gets hx hb hZ hS hown (hw _ cd_w_f1053) (fun _ h => h) cd_d_sci_2 ?_
    refine cd_runS (As := [.int j, .int n, .ref t]) (rest := []) (k := 3) (own := "java/lang/String") (G := G) ⟨hx, hb, hml, hown, hw⟩ hS hE (cd_t_pci l G j n t h0 hn) cd_w_pci_c cd_w_pci_i cd_w_pci_n cd_w_m1059 (by decide +kernel) rfl ⟨Nat.le_refl _, Nat.le_refl _⟩ hl.1 (by show 0 ≤ 8; omega) cd_d_sci_5 (Nat.zero_le _) (Nat.zero_le _) ?_
    rintro v rfl
    refine lv_pop hx hb cd_d_sci_8 rfl ?_
    exact W.vret (Qc := cd_Qp (fun v => v = none)) (free := fun _ => False) hx hb hr (fun t ht hW => ⟨none, rfl, rfl, ht⟩) (fun q hq => by cases hq) cd_d_sci_9 B.notSynchronized
set_option maxHeartbeats 4000000 in
theorem cd_t_lca (l : Launch) (G : cd_G) (i : Nat) (hi : i < 15) (j : Int32) (hj : cd_in j (cd_len.getD i 0) = true) : Met l cd_y_lca (cd_wq cd_y_lca prog_19_method_2_code 2 cd_r_lca) (cd_rq 2 43) (va_Pc [.ref (G.2.2.2.2.2.1 i), .int j] (fun U => cd_SE G U U.heap)) (cd_Qp (fun v => v = some (.int (Int32.ofNat ((cd_strs.getD i []).getD j.toNatClampNeg 0))))) 0 0 (fun _ => False) := by
  refine Met.ofW (cc := prog_19_method_2_code) (maxL := 2) (ret := cd_r_lca) (by decide) rfl ?_
  intro p e s m args below meth c s₁ B hml hv
  obtain ⟨rfl, hE⟩ := hv
  have hx := B.exec
  have hb := B.bytes
  have hr := B.returns
  have hw : ∀ w ∈ cd_W, w.before ([.ref (G.2.2.2.2.2.1 i), .int j] : List Value).toArray s = true := fun w hw => atoms_spec (ws := cd_wq cd_y_lca prog_19_method_2_code 2 cd_r_lca) B.pre w (List.mem_cons_of_mem _ hw)
  have hown : s.vm.findClass "java/lang/StringLatin1" = some m.cls := findClass_of_methodNamed B.named
  have hS : va_S (cd_A G) s.heap s.heap [] := va_S.rf
  have hl := lv_entry ([.ref (G.2.2.2.2.2.1 i), .int j]) (n := 2) (Nat.le_of_ble_eq_true rfl)
  rw [lg_entry_eq]
  generalize (lg_sl ([.ref (G.2.2.2.2.2.1 i), .int j]) ++ List.replicate (2 - (lg_sl ([.ref (G.2.2.2.2.2.1 i), .int j])).length) Slot.unset).toArray = lr at hl ⊢
  have hl : lv_has lr 2 [(0, .ref (G.2.2.2.2.2.1 i)), (1, .int j)] := hl
  have hin : vp_in j (cd_len.getD i 0) := cd_in_of hj
  have h0 : ¬ j < 0 := fun q => hin (Or.inl q)
  have hlt : j.toNatClampNeg < cd_len.getD i 0 := Nat.not_le.mp fun q => hin (Or.inr q)
  obtain ⟨hsm, hval⟩ := cd_str_fact i hi
  have hjn : j = nI j.toNatClampNeg := cd_nI_of h0
  have hn : j < Int32.ofNat (cd_len.getD i 0) := by
    have h9 : nI j.toNatClampNeg < nI (cd_len.getD i 0) := nI_lt hlt (by omega)
    rw [← hjn] at h9
    exact h9
  refine lv_iload_n hx hb cd_d_lca_0 rfl (lv_at hl 1 rfl) ?_
  refine lv_aload_n hx hb cd_d_lca_1 rfl (lv_at hl 0 rfl) ?_
  refine va_tlen hx hb (hE.1.1 i hi).2.2.2 hS rfl cd_d_lca_2 ?_
  refine cd_runS (As := [.int j, .int (Int32.ofNat (cd_len.getD i 0))]) (rest := []) (k := 2) (own := "java/lang/StringLatin1") (G := G) ⟨hx, hb, hml, hown, hw⟩ hS hE (cd_t_sci l G j _ h0 hn) cd_w_sci_c cd_w_sci_i cd_w_sci_n cd_w_m9 (by decide +kernel) rfl ⟨Nat.le_refl _, Nat.le_refl _⟩ hl.1 (by show 0 ≤ 8; omega) cd_d_lca_3 (Nat.zero_le _) (Nat.zero_le _) ?_
  rintro v rfl
  refine lv_aload_n hx hb cd_d_lca_6 rfl (lv_at hl 0 rfl) ?_
  refine lv_iload_n hx hb cd_d_lca_7 rfl (lv_at hl 1 rfl) ?_
  refine va_tb hx hb (hE.1.1 i hi).2.2.2 hS hin rfl cd_d_lca_8 ?_
  refine lv_sipush (v := 255) hx hb cd_d_lca_9 (by decide) ?_
  refine lv_iand hx hb cd_d_lca_12 ?_
  refine lv_i2c hx hb cd_d_lca_13 rfl ?_
  obtain ⟨e1, e2⟩ := hval _ hlt
  rw [e1]
  exact W.zret (Qc := cd_Qp (fun v => v = some (.int (Int32.ofNat ((cd_strs.getD i []).getD j.toNatClampNeg 0))))) (free := fun _ => False) (v := Int32.ofNat ((cd_strs.getD i []).getD j.toNatClampNeg 0)) (ty := .char) hx hb hr e2 (fun t ht hW => ⟨some (.int (Int32.ofNat ((cd_strs.getD i []).getD j.toNatClampNeg 0))), rfl, rfl, ht⟩) (fun q hq => by cases hq) cd_d_lca_14 B.notSynchronized
set_option maxHeartbeats 4000000 in
theorem cd_t_sca (l : Launch) (G : cd_G) (i : Nat) (hi : i < 15) (j : Int32) (hj : cd_in j (cd_len.getD i 0) = true) : Met l cd_y_sca (cd_wq cd_y_sca prog_18_method_56_code 2 cd_r_sca) (cd_rq 3 64) (va_Pc [.ref (cd_ad G (1000 + i)), .int j] (fun U => cd_SE G U U.heap)) (cd_Qp (fun v => v = some (.int (Int32.ofNat ((cd_strs.getD i []).getD j.toNatClampNeg 0))))) 0 0 (fun _ => False) := by
  refine Met.ofW (cc := prog_18_method_56_code) (maxL := 2) (ret := cd_r_sca) (by decide) rfl ?_
  intro p e s m args below meth c s₁ B hml hv
  obtain ⟨rfl, hE⟩ := hv
  have hx := B.exec
  have hb := B.bytes
  have hr := B.returns
  have hw : ∀ w ∈ cd_W, w.before ([.ref (cd_ad G (1000 + i)), .int j] : List Value).toArray s = true := fun w hw => atoms_spec (ws := cd_wq cd_y_sca prog_18_method_56_code 2 cd_r_sca) B.pre w (List.mem_cons_of_mem _ hw)
  have hown : s.vm.findClass "java/lang/String" = some m.cls := findClass_of_methodNamed B.named
  have hS : va_S (cd_A G) s.heap s.heap [] := va_S.rf
  have hl := lv_entry ([.ref (cd_ad G (1000 + i)), .int j]) (n := 2) (Nat.le_of_ble_eq_true rfl)
  rw [lg_entry_eq]
  generalize (lg_sl ([.ref (cd_ad G (1000 + i)), .int j]) ++ List.replicate (2 - (lg_sl ([.ref (cd_ad G (1000 + i)), .int j])).length) Slot.unset).toArray = lr at hl ⊢
  have hl : lv_has lr 2 [(0, .ref (cd_ad G (1000 + i))), (1, .int j)] := hl
  refine lv_aload_n hx hb cd_d_sca_0 rfl (lv_at hl 0 rfl) ?_
  refine cd_runV (As := []) (rest := []) (k := 0) (own := "java/lang/String") (G := G) ⟨hx, hb, hml, hown, hw⟩ hS hE (cd_t_lat l G i hi) cd_w_lat_c cd_w_lat_i cd_w_lat_s cd_w_lat_n cd_w_m492 (by decide +kernel) rfl ⟨by show 0 + 1 ≤ 3; omega, by show 8 + (1 + 11) + 0 ≤ 64; omega⟩ (vk_recv (adK := fun i => cd_ad G (1000 + i)) (i := i) hE.1 hi hS) hl.1 (by show 0 ≤ 8; omega) cd_d_sca_1 (Nat.zero_le _) (Nat.zero_le _) ?_
  rintro v rfl
  refine lv_if_eq (tgt := 16) hx hb cd_d_sca_4 (by decide) (fun h => absurd h (by decide)) (fun _ => ?_)
  refine lv_aload_n hx hb cd_d_sca_7 rfl (lv_at hl 0 rfl) ?_
  refine vk_getf hx hb (hE.1.1 i hi).2.2.1 hS hown (hw _ cd_w_f9) (fun _ h => h) cd_d_sca_8 ?_
  refine lv_iload_n hx hb cd_d_sca_11 rfl (lv_at hl 1 rfl) ?_
  refine cd_runS (As := [.ref (G.2.2.2.2.2.1 i), .int j]) (rest := []) (k := 2) (own := "java/lang/String") (G := G) ⟨hx, hb, hml, hown, hw⟩ hS hE (cd_t_lca l G i hi j hj) cd_w_lca_c cd_w_lca_i cd_w_lca_n cd_w_m495 (by decide +kernel) rfl ⟨Nat.le_refl _, Nat.le_refl _⟩ hl.1 (by show 0 ≤ 8; omega) cd_d_sca_12 (Nat.zero_le _) (Nat.zero_le _) ?_
  rintro v rfl
  obtain ⟨hsm, hval⟩ := cd_str_fact i hi
  have hlt : j.toNatClampNeg < cd_len.getD i 0 := Nat.not_le.mp fun q => (cd_in_of hj) (Or.inr q)
  obtain ⟨-, e2⟩ := hval _ hlt
  exact W.zret (Qc := cd_Qp (fun v => v = some (.int (Int32.ofNat ((cd_strs.getD i []).getD j.toNatClampNeg 0))))) (free := fun _ => False) (v := Int32.ofNat ((cd_strs.getD i []).getD j.toNatClampNeg 0)) (ty := .char) hx hb hr e2 (fun t ht hW => ⟨some (.int (Int32.ofNat ((cd_strs.getD i []).getD j.toNatClampNeg 0))), rfl, rfl, ht⟩) (fun q hq => by cases hq) cd_d_sca_15 B.notSynchronized
