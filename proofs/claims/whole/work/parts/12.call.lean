/-! ===== calls ===== -/
def cd_Pc (G : cd_G) (M : cd_M) (a : List Value) : Array Value → State → Prop := va_Pc (a.map (cd_tv G)) (fun U => cd_Rp G M U.heap ∧ cd_Ev G U U.heap)
def cd_Qc (G : cd_G) (r : cd_Ret) : Array Value → State → Outcome → State → Prop := fun _ st o t => o = .returned (r.1.map (cd_tv G)) ∧ cd_Rp G r.2 t.heap ∧ va_F (cd_A G) st t
def cd_ws (y : Nat) : List Cond := Cond.code (cd_mn y) (cd_cc y) (cd_mx y) (cd_rt y) :: cd_W
abbrev cd_rm (y mc ms : Nat) : Room := { frames := cd_fr y, cells := mc, slots := ms, locals := cd_lo y }
def cd_Met (l : Launch) (G : cd_G) (y : Nat) (a : List Value) (M : cd_M) (r : cd_Ret) : Prop := Met l (cd_mn y) (cd_ws y) (cd_rm y (r.2.1.length - M.1.length) (cd_sl r.2.1 - cd_sl M.1)) (cd_Pc G M a) (cd_Qc G r) (r.2.1.length - M.1.length) (cd_sl r.2.1 - cd_sl M.1) (cd_A G)
theorem cd_nest_warm {s U : State} (hW : s.WarmedH U.vm) (h : ∀ w ∈ cd_nest, va_Nw w s) : ∀ w ∈ cd_nest, va_Nw w U := by
  intro w hw
  have h1 := h w hw
  have h2 := (List.mem_filter.mp hw).2
  cases w <;> first | (cases h2; done) | exact va_Nw.warmM hW h1
theorem cd_nest_same {u U : State} (hv : u.vm = U.vm) (h : ∀ w ∈ cd_nest, va_Nw w u) : ∀ w ∈ cd_nest, va_Nw w U := by
  intro w hw
  have h1 := h w hw
  have h2 := (List.mem_filter.mp hw).2
  cases w <;> first | (cases h2; done) | exact va_Nw.same rfl hv h1
theorem cd_Ev.blind {G : cd_G} {U : State} (g : JFrame) (mk : MethodId) (a : Array Value) (h : cd_Ev G U U.heap) : cd_Ev G (U.calling g mk a) (U.calling g mk a).heap := by
  obtain ⟨h1, h2, h3, h4, h5, h6, h7, h8, h9, h10, h11, h12⟩ := h
  have hA : U.vm.Alike (U.calling g mk a).vm := Vm.Alike.refl _
  exact ⟨va_K.moved hA h1, va_AO.moved hA h2, va_AO.moved hA h3, cd_nest_same (u := U) (U := U.calling g mk a) rfl h4, fun own idx tx hw k e1 e2 e3 => vk_R.same (u := U) (U := U.calling g mk a) rfl (h5 own idx tx hw k e1 e2 e3), vk_S.moved hA h6, va_X.moved hA h7, h8, h9, h10, va_Z.moved hA h11, va_Zq.moved hA h12⟩
theorem cd_Pc_blind {G : cd_G} {M : cd_M} {a : List Value} : FrameBlind (cd_Pc G M a) := fun _ _ g mk h => ⟨h.1, h.2.1, h.2.2.blind g mk _⟩
theorem cd_Ev.at {G : cd_G} {s U : State} {H : Heap} {locs : List Loc} (h : cd_Ev G s s.heap) (hS : va_S (cd_A G) s.heap H locs) (hU : U.heap = H) (hW : s.WarmedH U.vm) : cd_Ev G U U.heap := by
  obtain ⟨h1, h2, h3, h4, h5, h6, h7, h8, h9, h10, h11, h12⟩ := h
  subst hU
  refine ⟨va_K.moved hW.alike h1, va_AO.moved hW.alike h2, va_AO.moved hW.alike h3, cd_nest_warm hW h4, fun own idx tx hw k e1 e2 e3 => vk_R.warm hW (h5 own idx tx hw k e1 e2 e3), (vk_S.moved hW.alike h6).kept hS.2.1, (va_X.moved hW.alike h7).kept (hS.2.1 _ (Nat.lt_of_lt_of_le h8 h9) (Nat.not_le.mpr h8)), h8, Nat.le_trans h9 hS.1, h10, (va_Z.moved hW.alike h11).kept hS.2.1, (va_Zq.moved hW.alike h12).kept hS.2.1⟩
theorem cd_cat_sum (G : cd_G) : ∀ (l : List Value), ((l.map (cd_tv G)).map fun v => v.category).sum = cd_cat l := by
  intro l
  induction l with
  | nil => rfl
  | cons v r ih => rw [List.map_cons, List.map_cons, List.sum_cons, cd_tv_cat, ih]; rfl
section CDC
variable {p : Program} {l : Launch} {e : Env} {R : Room} {s : State} {m : MethodId} {args : Array Value} {below : List Frame} {meth : Method} {c : Code} {Q : State → Prop} {G : cd_G} {y k0 s0 pc : Nat} {ls st : List Value} {M : cd_M}
/-- behind a call -/
theorem cd_after {H : Heap} {locs : List Loc} {cells slots mc ms : Nat} {lr : Array Slot} {st0 rest : List Value} {r1 : cd_Ret} {a : Array Value} (hr : va_Run p l e R s m args below meth c H locs cells slots mc ms (F0 m pc lr st0) rest (cd_Qc G r1 a) (cd_A G)) (hS : va_S (cd_A G) s.heap H locs)
    (kk : ∀ (H1 : Heap) (locs1 : List Loc), cd_Rp G r1.2 H1 → va_S (cd_A G) s.heap H1 locs1 → W p l e R s m args below meth c H1 locs1 (cells + mc) (slots + ms) Q (F0 m (pc + 3) lr ((r1.1.map (cd_tv G)).toList ++ rest))) : W p l e R s m args below meth c H locs cells slots Q (F0 m pc lr st0) := by
  intro T hT X
  obtain ⟨v, st₀, t, T', L, h0, X', hL, e1, e2, ⟨hv, hP1, hz, hk⟩, st⟩ := hr T hT X
  cases hv
  rw [h0] at hz hk
  obtain ⟨t2, a1, b1⟩ := kk T'.heap (locs ++ L) (by rw [e1]; exact hP1)
    ⟨Nat.le_trans hS.1 (by rw [e1]; exact hz), fun q h1 h2 => by rw [e1, hk q (Nat.lt_of_lt_of_le h1 hS.1) h2]; exact hS.2.1 q h1 h2, fun q hq => by
      rcases List.mem_append.mp hq with h | h
      · exact hS.2.2 q h
      · exact hL q h⟩ T' rfl X'
  exact ⟨t2, st t2 a1, b1⟩
theorem cd_fin {H : Heap} {locs : List Loc} {g : JFrame} {M1 : cd_M} (hk0 : k0 ≤ M.1.length) (hs0 : s0 ≤ cd_sl M.1) (h1 : M.1.length ≤ M1.1.length) (h2 : cd_sl M.1 ≤ cd_sl M1.1) (h : W p l e R s m args below meth c H locs (M1.1.length - k0) (cd_sl M1.1 - s0) Q g) : W p l e R s m args below meth c H locs (M.1.length - k0 + (M1.1.length - M.1.length)) (cd_sl M.1 - s0 + (cd_sl M1.1 - cd_sl M.1)) Q g := by
  rw [show M.1.length - k0 + (M1.1.length - M.1.length) = M1.1.length - k0 by omega, show cd_sl M.1 - s0 + (cd_sl M1.1 - cd_sl M.1) = cd_sl M1.1 - s0 by omega]
  exact h
theorem cd_callB (X : cd_Cx p s m args c y) {a n i mc ms : Nat} (hc : cd_callee y a n = true) (hw : Cond.methodLink (cd_own y) i (cd_mn a) ∈ cd_W) (hf : cd_fr y ≤ R.frames) (hl : cd_lo y ≤ R.locals) : CallB R s args (cd_own y) i (cd_mn a) (cd_cc a) (cd_mx a) (cd_rt a) (cd_ws a) (cd_rm a mc ms) mc ms n := by
  obtain ⟨h1, h2, h3, h4, h5, h6, h7⟩ := cd_callee_spec hc
  refine callB_of n X.2.2.2.2 ?_ rfl rfl rfl (X.2.2.2.2 _ h3) (X.2.2.2.2 _ hw) ⟨h4.1, h4.2, h5⟩ ⟨Nat.le_trans h6 hf, Nat.le_trans h7 hl⟩
  intro w hw
  rcases List.mem_cons.mp hw with rfl | hw
  · exact ⟨h2, cd_W_good h2⟩
  · exact ⟨hw, cd_W_good hw⟩
theorem cd_o_callV (X : cd_Cx p s m args c y) (E : cd_Ev G s s.heap) (hf : cd_fr y ≤ R.frames) (hlo : cd_lo y ≤ R.locals) {i a n o t : Nat} {as rest : List Value} {r1 : cd_Ret} (hd : decode (cd_cc y) pc = .ok (.invokevirtual i, 3)) (hc : cd_callee y a n = true) (hw : Cond.methodLink (cd_own y) i (cd_mn a) ∈ cd_W) (hin : Cond.instanceMethod (cd_mn a) ∈ cd_W) (hse : Cond.selects (cd_mn a).cls (cd_mn a) (cd_mn a) ∈ cd_W) (ht : t < 12) (hcls : (cd_mn a).cls = cd_cn t) (hk : cd_k M o = t) (hn : as.length = n) (hcat : ((rest.map (cd_tv G)).map fun v => v.category).sum ≤ 8)
    (hM : cd_Met l G a (.ref o :: as) M r1) (hk0 : k0 ≤ M.1.length) (hs0 : s0 ≤ cd_sl M.1) (g1 : M.1.length ≤ r1.2.1.length) (g2 : cd_sl M.1 ≤ cd_sl r1.2.1) (hR1 : r1.2.1.length - k0 ≤ R.cells) (hR2 : cd_sl r1.2.1 - s0 ≤ R.slots)
    (kk : cd_At p l e R s m args below meth c Q G y k0 s0 (pc + 3) ls (r1.1.toList ++ rest) r1.2) : cd_At p l e R s m args below meth c Q G y k0 s0 pc ls (as.reverse ++ .ref o :: rest) M := fun H locs lr hP hS hl => by
  obtain ⟨h2, hlt, -, cell, q1, q2, q3, q4⟩ := cd_obj hP hk ht
  have eo : cd_tv G (.ref o) = .ref (cd_ad G o) := cd_tv_ref (by omega)
  have hcell : ∃ cell : Cell, H[cd_ad G o]? = some cell ∧ cell.vm.isStatics = false ∧ s.vm.findClass (cd_mn a).cls = some cell.cls := ⟨cell, q1, by rw [q3]; rfl, by rw [q2, hcls]; exact (E.1.1 t _ (cd_clk ht)).2.1⟩
  rw [List.map_append, List.map_cons, eo, List.map_reverse]
  refine cd_after (va_runV (As := as.map (cd_tv G)) (rest := rest.map (cd_tv G)) X hM ⟨cd_callB X hc hw hf hlo, X.2.2.2.2 _ hin, X.2.2.2.2 _ hse⟩ ⟨cd_Pc_blind, hcell, fun U hU hW => ⟨by rw [List.map_cons, eo], by rw [hU]; exact hP, E.at hS hU hW⟩⟩ rfl (by rw [List.length_map]; exact hn) hl.1 rfl (lv_room hcat) hd ⟨by omega, by omega⟩) hS fun H1 locs1 hP1 hS1 => cd_fin hk0 hs0 g1 g2 ?_
  have h9 := kk H1 locs1 lr hP1 hS1 hl
  rw [List.map_append] at h9
  cases hr : r1.1 with
  | none => rw [hr] at h9; exact h9
  | some v => rw [hr] at h9; exact h9
theorem cd_o_callS (X : cd_Cx p s m args c y) (E : cd_Ev G s s.heap) (hf : cd_fr y ≤ R.frames) (hlo : cd_lo y ≤ R.locals) {i a n : Nat} {as rest : List Value} {r1 : cd_Ret} (hd : decode (cd_cc y) pc = .ok (.invokestatic i, 3)) (hc : cd_callee y a n = true) (hw : Cond.methodLink (cd_own y) i (cd_mn a) ∈ cd_W) (hst : Cond.static (cd_mn a) ∈ cd_W) (hn : as.length = n) (hcat : ((rest.map (cd_tv G)).map fun v => v.category).sum ≤ 8)
    (hM : cd_Met l G a as M r1) (hk0 : k0 ≤ M.1.length) (hs0 : s0 ≤ cd_sl M.1) (g1 : M.1.length ≤ r1.2.1.length) (g2 : cd_sl M.1 ≤ cd_sl r1.2.1) (hR1 : r1.2.1.length - k0 ≤ R.cells) (hR2 : cd_sl r1.2.1 - s0 ≤ R.slots)
    (kk : cd_At p l e R s m args below meth c Q G y k0 s0 (pc + 3) ls (r1.1.toList ++ rest) r1.2) : cd_At p l e R s m args below meth c Q G y k0 s0 pc ls (as.reverse ++ rest) M := fun H locs lr hP hS hl => by
  rw [List.map_append, List.map_reverse]
  refine cd_after (va_runS (As := as.map (cd_tv G)) (rest := rest.map (cd_tv G)) X hM ⟨cd_callB X hc hw hf hlo, X.2.2.2.2 _ hst⟩ ⟨cd_Pc_blind, fun U hU hW => ⟨rfl, by rw [hU]; exact hP, E.at hS hU hW⟩⟩ rfl (by rw [List.length_map]; exact hn) hl.1 rfl (lv_room hcat) hd ⟨by omega, by omega⟩) hS fun H1 locs1 hP1 hS1 => cd_fin hk0 hs0 g1 g2 ?_
  have h9 := kk H1 locs1 lr hP1 hS1 hl
  rw [List.map_append] at h9
  cases hr : r1.1 with
  | none => rw [hr] at h9; exact h9
  | some v => rw [hr] at h9; exact h9
theorem cd_o_callI (X : cd_Cx p s m args c y) (E : cd_Ev G s s.heap) (hf : cd_fr y ≤ R.frames) (hlo : cd_lo y ≤ R.locals) {i a o t : Nat} {rest : List Value} {r1 : cd_Ret} (hd : decode (cd_cc y) pc = .ok (.invokespecial i, 3)) (hc : cd_callee y a 0 = true) (hw : Cond.methodLink (cd_own y) i (cd_mn a) ∈ cd_W ∨ Cond.methodLinkNest (cd_own y) i (cd_mn a) "ChairDen" ∈ lw_tbl) (hin : Cond.instanceMethod (cd_mn a) ∈ cd_W) (hrt : cd_rt a = none) (hnm : (cd_mn a).name = "<init>") (ht : t < 12) (hk : cd_k M o = t) (hcat : ((rest.map (cd_tv G)).map fun v => v.category).sum ≤ 8)
    (hM : cd_Met l G a [.ref o] M r1) (hk0 : k0 ≤ M.1.length) (hs0 : s0 ≤ cd_sl M.1) (g1 : M.1.length ≤ r1.2.1.length) (g2 : cd_sl M.1 ≤ cd_sl r1.2.1) (hR1 : r1.2.1.length - k0 ≤ R.cells) (hR2 : cd_sl r1.2.1 - s0 ≤ R.slots)
    (kk : cd_At p l e R s m args below meth c Q G y k0 s0 (pc + 3) ls (r1.1.toList ++ rest) r1.2) : cd_At p l e R s m args below meth c Q G y k0 s0 pc ls (.ref o :: rest) M := fun H locs lr hP hS hl => by
  obtain ⟨h2, hlt, -, cell, q1, q2, q3, q4⟩ := cd_obj hP hk ht
  have eo : cd_tv G (.ref o) = .ref (cd_ad G o) := cd_tv_ref (by omega)
  obtain ⟨z1, z2, z3, z4, z5, z6, z7⟩ := cd_callee_spec hc
  have hGd : GoodIn cd_W (cd_ws a) := by
    intro w hw
    rcases List.mem_cons.mp hw with rfl | hw
    · exact ⟨z2, cd_W_good z2⟩
    · exact ⟨hw, cd_W_good hw⟩
  have hp : PreS s H (cd_Pc G M [.ref o]) [.ref (cd_ad G o)] := ⟨cd_Pc_blind, fun U hU hW => ⟨by rw [List.map_cons, eo]; rfl, by rw [hU]; exact hP, E.at hS hU hW⟩⟩
  rw [List.map_cons, eo]
  have fin : ∀ (H1 : Heap) (locs1 : List Loc), cd_Rp G r1.2 H1 → va_S (cd_A G) s.heap H1 locs1 → W p l e R s m args below meth c H1 locs1 (M.1.length - k0 + (r1.2.1.length - M.1.length)) (cd_sl M.1 - s0 + (cd_sl r1.2.1 - cd_sl M.1)) Q (F0 m (pc + 3) lr ((r1.1.map (cd_tv G)).toList ++ rest.map (cd_tv G))) := fun H1 locs1 hP1 hS1 => by
    refine cd_fin hk0 hs0 g1 g2 ?_
    have h9 := kk H1 locs1 lr hP1 hS1 hl
    rw [List.map_append] at h9
    cases hr : r1.1 with
    | none => rw [hr] at h9; exact h9
    | some v => rw [hr] at h9; exact h9
  have hM' : Met l (cd_mn a) (cd_ws a) (cd_rm a (r1.2.1.length - M.1.length) (cd_sl r1.2.1 - cd_sl M.1)) (cd_Pc G M [.ref o]) (cd_Qc G r1) (r1.2.1.length - M.1.length) (cd_sl r1.2.1 - cd_sl M.1) (cd_A G) := hM
  rcases hw with hw | hw
  · have hB := cd_callB (R := R) (mc := r1.2.1.length - M.1.length) (ms := cd_sl r1.2.1 - cd_sl M.1) X hc hw hf hlo
    rw [hrt] at hB
    exact cd_after (va_runI (As := []) (rest := rest.map (cd_tv G)) X hM' ⟨hB, hnm, X.2.2.2.2 _ hin⟩ hp rfl rfl hl.1 rfl (lv_room hcat) hd ⟨by omega, by omega⟩) hS fin
  · have hnw : va_Nw (.methodLinkNest (cd_own y) i (cd_mn a) "ChairDen") s := E.2.2.2.1 _ (List.mem_filter.mpr ⟨hw, rfl⟩)
    have hw2 : cd_ws a = Cond.code (cd_mn a) (cd_cc a) (cd_mx a) none :: cd_W := by unfold cd_ws; rw [hrt]
    have hB := va_cnB (R := R) (mc := r1.2.1.length - M.1.length) (ms := cd_sl r1.2.1 - cd_sl M.1) (rm := cd_rm a (r1.2.1.length - M.1.length) (cd_sl r1.2.1 - cd_sl M.1)) 0 X.2.2.2.2 hGd hw2 rfl rfl hnw (X.2.2.2.2 _ z3) ⟨z4.1, z4.2, z5⟩ ⟨Nat.le_trans z6 hf, Nat.le_trans z7 hlo⟩
    exact cd_after (va_runIN (As := []) (rest := rest.map (cd_tv G)) X hM' ⟨hB, hnm, X.2.2.2.2 _ hin⟩ hp rfl rfl hl.1 rfl (lv_room hcat) hd ⟨by omega, by omega⟩) hS fin
theorem cd_o_objInit (X : cd_Cx p s m args c y) (hf : 1 ≤ R.frames) (hlo : 20 ≤ R.locals) {i a : Nat} (hd : decode (cd_cc y) pc = .ok (.invokespecial i, 3)) (hw : Cond.methodLink (cd_own y) i Lib.objectInit ∈ cd_W) (ha : a ≠ 0) (hcat : ((st.map (cd_tv G)).map fun v => v.category).sum ≤ 8) (kk : cd_At p l e R s m args below meth c Q G y k0 s0 (pc + 3) ls st M) : cd_At p l e R s m args below meth c Q G y k0 s0 pc ls (.ref a :: st) M := fun H locs lr hP hS hl => by
  rw [List.map_cons, cd_tv_ref ha]
  refine W.objInit X.1 X.2.1 X.2.2.2.1 (X.2.2.2.2 _ hw) (X.2.2.2.2 _ cd_w_oi) (X.2.2.2.2 _ cd_w_oc) rfl (by rw [X.2.2.1]; exact hl.1) rfl hd hf ?_ (kk H locs lr hP hS hl)
  have := lv_room (m := m) (pc := pc) (ls := lr) (rest := ([] : List Value)) hcat
  show 2 * 0 + _ + 12 ≤ _
  omega
theorem cd_o_copy (X : cd_Cx p s m args c y) (E : cd_Ev G s s.heap) (hf : 1 ≤ R.frames) (hlo : 30 ≤ R.locals) {i a b : Nat} {sp dp n : Int32} (hd : decode (cd_cc y) pc = .ok (.invokestatic i, 3)) (hw : Cond.methodLink (cd_own y) i arraycopyName ∈ cd_W) (hka : cd_k M a = 20) (hkb : cd_k M b = 20) (h1 : ¬ sp < 0) (h2 : ¬ dp < 0) (h3 : ¬ n < 0) (h4 : sp.toNatClampNeg + n.toNatClampNeg ≤ cd_n M a) (h5 : dp.toNatClampNeg + n.toNatClampNeg ≤ cd_n M b) (hcat : ((st.map (cd_tv G)).map fun v => v.category).sum ≤ 8)
    (kk : cd_At p l e R s m args below meth c Q G y k0 s0 (pc + 3) ls st (cd_cp M a sp.toNatClampNeg b dp.toNatClampNeg n.toNatClampNeg)) : cd_At p l e R s m args below meth c Q G y k0 s0 pc ls (.int n :: .int dp :: .ref b :: .int sp :: .ref a :: st) M := fun H locs lr hP hS hl => by
  have nn : ∀ z : Int32, ¬ z < 0 → z.toInt = (z.toNatClampNeg : Int) := by
    intro z hz
    have hz0 : (0 : Int) ≤ z.toInt := by
      have := Int32.not_lt.mp hz
      simpa using Int32.le_iff_toInt_le.mp this
    show z.toInt = ((z.toInt.toNat : Nat) : Int)
    omega
  obtain ⟨a2, alt, hc0⟩ := cd_arr hP hka (by omega) (by omega)
  obtain ⟨b2, blt, hc1⟩ := cd_arr hP hkb (by omega) (by omega)
  have ea : cd_tv G (.ref a) = .ref (cd_ad G a) := cd_tv_ref (by omega)
  have eb : cd_tv G (.ref b) = .ref (cd_ad G b) := cd_tv_ref (by omega)
  simp only [List.map_cons, ea, eb]
  intro T hT XX
  obtain ⟨-, k1, hk1, cm1, hkk1⟩ := (cd_ArrT E (t := 20) (by omega) (by omega)).1 (cd_n M a) (cd_av G M 20 a)
  obtain ⟨-, k2, hk2, cm2, hkk2⟩ := (cd_ArrT E (t := 20) (by omega) (by omega)).1 (cd_n M b) (cd_av G M 20 b)
  have hnf : nativeFrameWords "java/lang/System" "arraycopy" 5 = 7 := by decide
  obtain ⟨vm', X', step⟩ := XX.arraycopy X.1 X.2.2.2.1 (X.2.2.2.2 _ hw) (X.2.2.2.2 _ cd_w_nat) (X.2.2.2.2 _ cd_w_sta) (X.2.2.2.2 _ cd_w_ini) (src := cd_ad G a) (dst := cd_ad G b) (cs := arrV (G.2.1 20) (cd_n M a) (cd_av G M 20 a)) (cd := arrV (G.2.1 20) (cd_n M b) (cd_av G M 20 b)) (srcPos := sp) (destPos := dp) (n := n) (by rw [hT]; exact hc0) (by rw [hT]; exact hc1)
    (fun _ h => by cases h) (fun _ h => by cases h) (fun h => by cases h) (fun h => by cases h) hk1 hk2 hkk1 hkk2 (by first | rfl | simp [refKind, cd_aty]) h1 h2 h3
    (by rw [nn sp h1, nn n h3, arrV_size]; omega)
    (by rw [nn dp h2, nn n h3, arrV_size]; omega)
    (fun vm₁ _ i hi => by
      have e : (arrV (G.2.1 20) (cd_n M a) (cd_av G M 20 a)).slots.getD (sp.toNatClampNeg + i) .null = .int (cd_I M a (sp.toNatClampNeg + i)) := by
        rw [Array.getD_eq_getD_getElem?, arrV_read _ _ (by omega)]
        rfl
      refine ⟨?_, ?_⟩
      · rw [e]; rfl
      · rw [e]; exact trivial)
    (g := F0 m pc lr (.int n :: .int dp :: .ref (cd_ad G b) :: .int sp :: .ref (cd_ad G a) :: st.map (cd_tv G))) rfl (by rw [X.2.2.1, ← hl.1]) (rest := st.map (cd_tv G)) rfl (by rw [X.2.1]; exact hd) hf (by show 2 * 0 + _ + _ ≤ _; rw [hnf]; omega)
  have e1 : copied (arrV (G.2.1 20) (cd_n M a) (cd_av G M 20 a)) (arrV (G.2.1 20) (cd_n M b) (cd_av G M 20 b)) sp dp n = arrV (G.2.1 20) (cd_n M b) (fun k => .int (va_cpy (cd_I M a) (cd_I M b) sp.toNatClampNeg dp.toNatClampNeg n.toNatClampNeg k)) := va_copied (fun z => .int z) (G.2.1 20) (G.2.1 20) (cd_I M a) (cd_I M b) h4
  rw [e1] at X' step
  have hbl : cd_ad G b < H.size := (cd_ad_of hP b2 blt).2.2
  have hbA : cd_A G (cd_ad G b) := (cd_ad_of hP b2 blt).2.1
  generalize hcell : arrV (G.2.1 20) (cd_n M b) (fun k => Value.int (va_cpy (cd_I M a) (cd_I M b) sp.toNatClampNeg dp.toNatClampNeg n.toNatClampNeg k)) = cell at X' step
  have hheap : ((T.setVm vm').setCell (cd_ad G b) cell).heap = H.setIfInBounds (cd_ad G b) cell := by rw [← hT]; rfl
  have oq : ∀ q : Nat, q ≠ cd_ad G b → (H.setIfInBounds (cd_ad G b) cell)[q]? = H[q]? := fun q hq => by simp [Array.getElem?_setIfInBounds, Ne.symm hq]
  have hnew : cd_Rp G (cd_cp M a sp.toNatClampNeg b dp.toNatClampNeg n.toNatClampNeg) (H.setIfInBounds (cd_ad G b) cell) := by
    refine hP.put b2 blt rfl (fun j => ?_) (fun a' ha => ⟨fun k => ?_, fun _ => rfl, fun _ => rfl⟩) (by simp) oq (Or.inr ⟨?_, ?_, ?_⟩)
    · simp only [cd_cp, cd_I]; rw [if_neg (by omega)]
    · simp only [cd_cp, cd_I]; rw [if_neg ha]
    · show 20 ≤ cd_k M b; omega
    · show cd_k M b ≤ 24; omega
    · have ek : cd_k (cd_cp M a sp.toNatClampNeg b dp.toNatClampNeg n.toNatClampNeg) b = 20 := hkb
      have en : cd_n (cd_cp M a sp.toNatClampNeg b dp.toNatClampNeg n.toNatClampNeg) b = cd_n M b := rfl
      rw [ek, en, Array.getElem?_setIfInBounds, if_pos rfl, if_pos hbl, ← hcell]
      congr 2
      funext k
      simp [cd_av, cd_cp, cd_I]
  obtain ⟨t, a1, b1⟩ := kk _ _ lr hnew ⟨by simp; exact hS.1, fun q g1 g2 => by
      rw [oq q (fun e => g2 (by rw [e]; exact hbA))]
      exact hS.2.1 q g1 g2, fun q hq => by
      rcases List.mem_append.mp hq with h | h
      · exact hS.2.2 q h
      · obtain ⟨z, -, hz⟩ := List.mem_map.mp h
        rw [← hz]
        exact hbA⟩ hl _ hheap X'
  exact ⟨t, step t a1, b1⟩
theorem cd_o_mabs (X : cd_Cx p s m args c y) (hf : 1 ≤ R.frames) (hlo : 21 ≤ R.locals) {i : Nat} {x : Int32} (hd : decode (cd_cc y) pc = .ok (.invokestatic i, 3)) (hw : Cond.methodLink (cd_own y) i Lib.Math.abs.name ∈ cd_W) (hcat : ((st.map (cd_tv G)).map fun v => v.category).sum ≤ 8) (hc : M.1.length - k0 ≤ R.cells) (hs : cd_sl M.1 - s0 ≤ R.slots) (kk : cd_At p l e R s m args below meth c Q G y k0 s0 (pc + 3) ls (.int (if 0 ≤ x then x else 0 - x) :: st) M) : cd_At p l e R s m args below meth c Q G y k0 s0 pc ls (.int x :: st) M := fun H locs lr hP hS hl =>
  va_mabs X.1 X.2.1 (by rw [X.2.2.1, ← hl.1]) X.2.2.2.1 (X.2.2.2.2 _ hw) (X.2.2.2.2 _ cd_w_mabs.1) (X.2.2.2.2 _ cd_w_Math) (X.2.2.2.2 _ cd_w_mabs.2) hf (by omega) hc hs hd (kk H locs lr hP hS hl)
theorem cd_o_mmax (X : cd_Cx p s m args c y) (hf : 1 ≤ R.frames) (hlo : 21 ≤ R.locals) {i : Nat} {x z : Int32} (hd : decode (cd_cc y) pc = .ok (.invokestatic i, 3)) (hw : Cond.methodLink (cd_own y) i Lib.Math.max.name ∈ cd_W) (hcat : ((st.map (cd_tv G)).map fun v => v.category).sum ≤ 8) (hc : M.1.length - k0 ≤ R.cells) (hs : cd_sl M.1 - s0 ≤ R.slots) (kk : cd_At p l e R s m args below meth c Q G y k0 s0 (pc + 3) ls (.int (if x < z then z else x) :: st) M) : cd_At p l e R s m args below meth c Q G y k0 s0 pc ls (.int z :: .int x :: st) M := fun H locs lr hP hS hl =>
  va_mmax X.1 X.2.1 (by rw [X.2.2.1, ← hl.1]) X.2.2.2.1 (X.2.2.2.2 _ hw) (X.2.2.2.2 _ cd_w_mmax.1) (X.2.2.2.2 _ cd_w_Math) (X.2.2.2.2 _ cd_w_mmax.2) hf (by omega) hc hs hd (kk H locs lr hP hS hl)
theorem cd_o_mmin (X : cd_Cx p s m args c y) (hf : 1 ≤ R.frames) (hlo : 21 ≤ R.locals) {i : Nat} {x z : Int32} (hd : decode (cd_cc y) pc = .ok (.invokestatic i, 3)) (hw : Cond.methodLink (cd_own y) i Lib.Math.min.name ∈ cd_W) (hcat : ((st.map (cd_tv G)).map fun v => v.category).sum ≤ 8) (hc : M.1.length - k0 ≤ R.cells) (hs : cd_sl M.1 - s0 ≤ R.slots) (kk : cd_At p l e R s m args below meth c Q G y k0 s0 (pc + 3) ls (.int (if z < x then z else x) :: st) M) : cd_At p l e R s m args below meth c Q G y k0 s0 pc ls (.int z :: .int x :: st) M := fun H locs lr hP hS hl =>
  va_mmin X.1 X.2.1 (by rw [X.2.2.1, ← hl.1]) X.2.2.2.1 (X.2.2.2.2 _ hw) (X.2.2.2.2 _ cd_w_mmin.1) (X.2.2.2.2 _ cd_w_Math) (X.2.2.2.2 _ cd_w_mmin.2) hf (by omega) hc hs hd (kk H locs lr hP hS hl)
end CDC
