/-! THE CLAIM OUT OF ONE WALK OF THE LAW'S BODY. Your part is whole_start (and what it stands on); all else here is the same for every law, but numbers. -/
def R_law : String := "ChairDenLaw"
def lw_P (b : Addr) (xs : List Int32) (args : Array Value) (s : State) : Prop := args = #[.ref b] ∧ s.IntsAt b xs ∧ xs.length ≤ 2560 ∧ (Jvm.Cond.and given_1 narrow_1).before args s = true
def lw_Q (_ : Array Value) (s : State) (o : Outcome) (t : State) : Prop := o = .returned (some (.int 1)) ∧ Framed s o t [] 131 23689
def lw_Z (below : List Frame) (a : Array Value) (s : State) : State → Prop := fun t => ∃ o, t.status = .running ∧ Ended t below o ∧ lw_Q a s o t
/-- the law's own end, with 1 on the stack, nothing written that was there before, its room as the claim has it -/
theorem lw_ret {p : Program} {l : Launch} {e : Env} {s : State} {m : MethodId} {below : List Frame} {meth : Method} {c : Code} {b : Nat} (hx : p.tables.exec = Jvm.exec) (hb : c.code = code) (hr : meth.sig.returnType = ret) (hlocks : meth.locks = false) {pc : Nat} {H : Heap} {ls : Array Slot} (hdg : decode code pc = .ok (.ireturn, 1)) : W p l e room_1 s m #[Value.ref b] below meth c H [] 131 23689 (lw_Z below #[Value.ref b] s) (F0 m pc ls [.int 1]) := by
  intro T hT X
  obtain ⟨fs, hret, hrun, hended, hW, hframe⟩ := X.leave (v := some (.int 1)) (hlocks := hlocks) (fun h => by rw [hr] at h; cases h)
  have hmeth' : T.vm.method? m = some meth := X.method'
  refine ⟨T.setFrames fs, ?_, .returned (some (.int 1)), hrun, hended, rfl, ⟨_, rfl⟩, hW, hframe⟩
  jvm_step X.here [X.here.top, hx, hb, hdg, hmeth', hr, ret, narrow_b1]
  (try refine ⟨rfl, ?_⟩); (try refine ⟨rfl, ?_⟩)
  first | (intro acts; rw [hret _ acts rfl rfl rfl]) | rw [hret _ _ rfl rfl rfl]
  exact Steps.refl _
/-- what holds at the law's entry: the machine, the code, the tables' words (any of lw_tbl by 'hts w (by decide +kernel)'), the script of L ints xs at the cell b, what the Statement gives of the start (any of its parts by flat_of_before) -/
def lw_At (p : Program) (s : State) (m : MethodId) (meth : Method) (c : Code) (b L : Nat) (xs : Nat → Int32) : Prop :=
  p.tables.exec = Jvm.exec ∧ c.code = code ∧ meth.sig.returnType = ret ∧ c.maxLocals = 4 ∧ s.vm.findClass R_law = some m.cls ∧ (∀ w ∈ lw_tbl, w.before #[Value.ref b] s = true) ∧ va_X b L xs s s.heap ∧ b < s.heap.size ∧ meth.locks = false ∧ (Jvm.Cond.and given_1 narrow_1).before #[Value.ref b] s = true

def cd_tmL : List (String × Nat) := [("ChairDen$Plan", 90), ("ChairDen$Plan", 100), ("ChairDen$Plan", 105), ("ChairDen$Plan", 171), ("ChairDen$Plan", 173), ("ChairDen$Plan", 175), ("ChairDen$Plan", 177), ("ChairDen$Plan", 179), ("ChairDen$Plan", 110), ("ChairDen$Plan", 115), ("ChairDen$Want", 28), ("ChairDen$Want", 47), ("ChairDen$Want", 48), ("ChairDen$Want", 49), ("ChairDen$Want", 50)]
def cd_tm (i : Nat) : Term := .string (cd_tmL.getD i ("", 0)).1 (cd_tmL.getD i ("", 0)).2
def cd_F : List Cond := flatC (Cond.and given_1 narrow_1)
set_option maxRecDepth 100000 in
theorem cd_F_ex : (List.range 15).all (fun i => decide (Cond.exactly (cd_tm i) "java/lang/String" ∈ cd_F) && (decide (Cond.eq (.field (cd_tm i) "java/lang/String" "coder" "B") (.int 0) ∈ cd_F) && (decide (Cond.arrayOf (.field (cd_tm i) "java/lang/String" "value" "[B") .byte ∈ cd_F) && decide (Cond.eq (.length (.field (cd_tm i) "java/lang/String" "value" "[B")) (.int (Int32.ofNat (cd_len.getD i 0))) ∈ cd_F)))) = true := by decide +kernel
set_option maxRecDepth 100000 in
theorem cd_F_el : (List.range 15).all (fun i => (List.range (cd_len.getD i 0)).all (fun j => decide (Cond.eq (.elem (.field (cd_tm i) "java/lang/String" "value" "[B") (.int (Int32.ofNat j))) (.int ((cd_byt.getD i []).getD j 0)) ∈ cd_F))) = true := by decide +kernel
def cd_ix (t : Term) : Nat := match t with
  | .string a k => ((List.range 15).filter (fun i => Nat.beq (cd_tmL.getD i ("", 0)).2 k && decide (a = (cd_tmL.getD i ("", 0)).1))).headD 99
  | _ => 99
def cd_NE : List (Nat × Nat) := cd_F.filterMap (fun w => match w with
  | .not (.eq a b) => some (cd_ix a, cd_ix b)
  | _ => none)
set_option maxRecDepth 100000 in
theorem cd_NE_ok : (match cd_NE with
  | l => (List.range 15).all (fun i => (List.range 15).all (fun j => Nat.beq i j || (l.any (fun q => Nat.beq q.1 i && Nat.beq q.2 j) || l.any (fun q => Nat.beq q.1 j && Nat.beq q.2 i))))) = true := by decide +kernel
theorem cd_ix_eq {t : Term} {i : Nat} (h : cd_ix t = i) (hi : i < 15) : t = cd_tm i := by
  unfold cd_ix at h
  split at h
  · rename_i a k
    cases hf : (List.range 15).filter (fun i => Nat.beq (cd_tmL.getD i ("", 0)).2 k && decide (a = (cd_tmL.getD i ("", 0)).1)) with
    | nil => rw [hf] at h; simp at h; omega
    | cons x r =>
      rw [hf] at h
      simp at h
      subst h
      have h1 : x ∈ (List.range 15).filter (fun i => Nat.beq (cd_tmL.getD i ("", 0)).2 k && decide (a = (cd_tmL.getD i ("", 0)).1)) := by rw [hf]; exact List.mem_cons_self
      have h2 := (List.mem_filter.mp h1).2
      rw [Bool.and_eq_true, decide_eq_true_eq] at h2
      have h3 := Nat.eq_of_beq_eq_true h2.1
      unfold cd_tm
      rw [h2.2, h3]
  · omega
theorem cd_NE_mem {i j : Nat} (hi : i < 15) (hj : j < 15) (h : cd_NE.any (fun q => Nat.beq q.1 i && Nat.beq q.2 j) = true) : Cond.not (Cond.eq (cd_tm i) (cd_tm j)) ∈ cd_F := by
  obtain ⟨q, hq, h1⟩ := List.any_eq_true.mp h
  rw [Bool.and_eq_true] at h1
  have e1 := Nat.eq_of_beq_eq_true h1.1
  have e2 := Nat.eq_of_beq_eq_true h1.2
  obtain ⟨w, hw, h2⟩ := List.mem_filterMap.mp hq
  split at h2
  · rename_i a b
    cases h2
    rw [← cd_ix_eq e1 hi, ← cd_ix_eq e2 hj]
    exact hw
  · cases h2
theorem cd_F_ne {i j : Nat} (hi : i < 15) (hj : j < 15) (hij : i ≠ j) : Cond.not (Cond.eq (cd_tm i) (cd_tm j)) ∈ cd_F ∨ Cond.not (Cond.eq (cd_tm j) (cd_tm i)) ∈ cd_F := by
  have h := List.all_eq_true.mp (List.all_eq_true.mp cd_NE_ok i (List.mem_range.mpr hi)) j (List.mem_range.mpr hj)
  rw [Bool.or_eq_true, Bool.or_eq_true] at h
  rcases h with h | h | h
  · exact absurd (Nat.eq_of_beq_eq_true h) hij
  · exact Or.inl (cd_NE_mem hi hj h)
  · exact Or.inr (cd_NE_mem hj hi h)
set_option maxRecDepth 100000 in
theorem cd_F_st : Cond.eq (.static "java/lang/String" "COMPACT_STRINGS" "Z") (.int 1) ∈ cd_F ∧ Cond.isRef (.static "jdk/internal/util/Preconditions" "SIOOBE_FORMATTER" "Ljava/util/function/BiFunction;") ∈ cd_F := by decide +kernel
set_option maxRecDepth 100000 in
theorem cd_F_ls : Cond.laysStatic "java/lang/String" "COMPACT_STRINGS" "Z" ∈ lw_tbl ∧ Cond.laysStatic "jdk/internal/util/Preconditions" "SIOOBE_FORMATTER" "Ljava/util/function/BiFunction;" ∈ lw_tbl ∧ Cond.initialized "java/lang/String" ∈ lw_tbl ∧ Cond.initialized "jdk/internal/util/Preconditions" ∈ lw_tbl ∧ Cond.arrayOver (.object "ChairDen$State") ∈ lw_tbl ∧ Cond.arrayOver (.object "ChairDen$Want") ∈ lw_tbl := ⟨List.mem_of_getElem? (i := 651) (by decide +kernel), List.mem_of_getElem? (i := 667) (by decide +kernel), List.mem_of_getElem? (i := 108) (by decide +kernel), List.mem_of_getElem? (i := 110) (by decide +kernel), List.mem_of_getElem? (i := 404) (by decide +kernel), List.mem_of_getElem? (i := 406) (by decide +kernel)⟩
def cd_srOk (w : Cond) : Bool := match w with
  | .stringRef own idx tx => (List.range 15).all (fun i => decide (tx ≠ String.ofList ((cd_str (1000 + i)).map Char.ofNat)) || decide ((own, idx) = cd_tmL.getD i ("", 0)))
  | _ => true
set_option maxRecDepth 100000 in
theorem cd_sr_ok : lw_tbl.all cd_srOk = true := by decide +kernel


theorem cd_arrT {args : Array Value} {s : State} {t : FieldType} (h : (Cond.arrayClass t).before args s = true) (ht : t = .int ∨ t = .long ∨ t = .boolean) : ∃ cA : ClassId, ArrOfT s cA t ∧ va_RA s cA t := by
  obtain ⟨c, k, comp, h1, h2, h3⟩ := Cond.arrayClass_spec h
  refine ⟨c, fun n z => ⟨(fun q h => by cases h), k, h2, comp, h3⟩, ?_⟩
  rcases ht with rfl | rfl | rfl <;> exact h1
theorem cd_arrO {args : Array Value} {s : State} {C : String} (h : (Cond.arrayOver (.object C)).before args s = true) : ∃ cA : ClassId, ArrOfT s cA (.object C) ∧ va_RA s cA (.object C) := by
  obtain ⟨comp, c, k, h1, h2, h3, h4, h5⟩ := Cond.arrayOver_spec h
  exact ⟨c, fun n z => ⟨(fun q h => by cases h), k, h3, comp, h4⟩, k, comp, h3, h4, h1, h5⟩
set_option maxHeartbeats 4000000 in
/-- the setting at the law's entry -/
theorem cd_env {p : Program} {s : State} {m : MethodId} {meth : Method} {c : Code} {b L : Nat} {xs : Nat → Int32} (hL : L ≤ 2560) (C0 : lw_At p s m meth c b L xs) : ∃ G : cd_G, G.2.2.1 = b ∧ cd_bs G = s.heap.size ∧ G.2.2.2.2.2.2.1 = L ∧ G.2.2.2.2.2.2.2 = xs ∧ cd_Ev G s s.heap := by
  obtain ⟨hx, hb, hr, hml, hown, hts, hX, hbl, hlocks, hgv⟩ := id C0
  have hW : ∀ w ∈ cd_W, w.before #[Value.ref b] s = true := fun w hw => hts w (cd_W_tbl hw)
  have hF : ∀ w ∈ cd_F, w.before #[Value.ref b] s = true := flat_of_before _ hgv
  have hA : ∀ a : Nat, a < s.heap.size → ¬ (fun q : Nat => s.heap.size ≤ q) a := fun a h q => Nat.not_le.mpr h q
  -- classes
  have h0 : ∀ t : Nat, ∃ q : ClassId × (Nat → Nat), t < 12 → u_Kn s (cd_cn t) (cd_T t) (cd_nf t) q.1 q.2 := by
    intro t
    by_cases ht : t < 12
    · obtain ⟨cC, iS, h⟩ := u_known hW (cd_in_lay ht) (hW _ (cd_inst_w ht).1)
      exact ⟨(cC, iS), fun _ => h⟩
    · exact ⟨(0, fun _ => 0), fun h => absurd h ht⟩
  obtain ⟨dd, hdd⟩ := Classical.skolem.mp h0
  obtain ⟨aI, hI⟩ := cd_arrT (hW _ cd_w_aI) (Or.inl rfl)
  obtain ⟨aJ, hJ⟩ := cd_arrT (hW _ cd_w_aJ) (Or.inr (Or.inl rfl))
  obtain ⟨aZ, hZ⟩ := cd_arrT (hW _ cd_w_aZ) (Or.inr (Or.inr rfl))
  obtain ⟨aS, hSt⟩ := cd_arrO (hts _ cd_F_ls.2.2.2.2.1)
  obtain ⟨aW, hWt⟩ := cd_arrO (hts _ cd_F_ls.2.2.2.2.2)
  -- strings
  have fx : ∀ i, i < 15 → Cond.exactly (cd_tm i) "java/lang/String" ∈ cd_F ∧ Cond.eq (.field (cd_tm i) "java/lang/String" "coder" "B") (.int 0) ∈ cd_F ∧ Cond.arrayOf (.field (cd_tm i) "java/lang/String" "value" "[B") .byte ∈ cd_F ∧ Cond.eq (.length (.field (cd_tm i) "java/lang/String" "value" "[B")) (.int (Int32.ofNat (cd_len.getD i 0))) ∈ cd_F := by
    intro i hi
    have h := List.all_eq_true.mp cd_F_ex i (List.mem_range.mpr hi)
    simpa only [Bool.and_eq_true, decide_eq_true_eq] using h
  obtain ⟨adK, adV, hvk, hev⟩ := vk_Sof (args := #[Value.ref b]) (s := s) (N := 15) (tm := cd_tm) (len := cd_len) (byt := cd_byt) (A := fun q : Nat => s.heap.size ≤ q) (fun i hi => Nat.lt_of_lt_of_le (cd_str_fact i hi).1 (by decide)) (fun i hi => hF _ (fx i hi).1) (fun i hi => hF _ (fx i hi).2.1) (fun i hi => hF _ (fx i hi).2.2.1) (fun i hi => hF _ (fx i hi).2.2.2)
    (fun i hi j hj => by
      have h := List.all_eq_true.mp (List.all_eq_true.mp cd_F_el i (List.mem_range.mpr hi)) j (List.mem_range.mpr hj)
      exact hF _ (of_decide_eq_true h))
    (fun i j hi hj hij => by
      rcases cd_F_ne hi hj hij with h | h
      · exact Or.inl (hF _ h)
      · exact Or.inr (hF _ h)) hA
  refine ⟨((fun t => (dd t).1, fun t => (dd t).2), (fun t => if t = 20 then aI else if t = 21 then aJ else if t = 22 then aZ else if t = 23 then aS else aW), b, s.heap.size, adK, adV, L, xs), rfl, rfl, rfl, rfl, ?_⟩
  have eK : (fun i => cd_ad (((fun t => (dd t).1, fun t => (dd t).2), (fun t => if t = 20 then aI else if t = 21 then aJ else if t = 22 then aZ else if t = 23 then aS else aW), b, s.heap.size, adK, adV, L, xs) : cd_G) (1000 + i)) = adK := by
    funext i
    unfold cd_ad
    rw [if_neg (by omega), if_neg (by omega)]
    show adK (1000 + i - 1000) = adK i
    rw [Nat.add_sub_cancel_left]
  refine ⟨⟨fun t q hq => ?_, fun k q hq => ?_⟩, hts _ cd_F_ls.2.2.2.2.1, hts _ cd_F_ls.2.2.2.2.2, fun w hw => ?_, fun own idx tx hw k e1 e2 e3 => ?_, by rw [eK]; exact hvk, hX, hbl, Nat.le_refl _, by show L < 2 ^ 31; omega, ?_, ?_⟩
  · have ht : t < 12 := by
      have := (List.getElem?_eq_some_iff.mp hq).1
      simpa [cd_vc] using this
    rw [cd_clk ht] at hq
    cases hq
    exact hdd t ht
  · match k, hq with
    | 0, hq => cases hq; exact hI
    | 1, hq => cases hq; exact hJ
    | 2, hq => cases hq; exact hZ
    | 3, hq => cases hq; exact hSt
    | 4, hq => cases hq; exact hWt
    | k + 5, hq => simp [cd_tys] at hq
  · have h1 := hts w (List.mem_filter.mp hw).1
    have h2 := (List.mem_filter.mp hw).2
    cases w <;> first | (cases h2; done) | exact va_Nw.of rfl h1
  · obtain ⟨i, rfl⟩ : ∃ i, k = 1000 + i := ⟨k - 1000, by omega⟩
    have h1 := List.all_eq_true.mp cd_sr_ok _ hw
    have h2 := List.all_eq_true.mp h1 i (List.mem_range.mpr (by omega))
    simp only [Bool.or_eq_true, decide_eq_true_eq] at h2
    have h3 := h2.resolve_left (fun q => q e1)
    have h4 := hev i (by omega)
    unfold cd_tm at h4
    rw [← h3] at h4
    have e9 := congrFun eK i
    rw [show cd_ad _ (1000 + i) = adK i from e9]
    exact vk_R.of (hts _ hw) h4
  · exact va_Zof (hts _ cd_F_ls.1) (hts _ cd_F_ls.2.2.1) (va_eqt (hF _ cd_F_st.1)) hA
  · exact va_Zqof (hts _ cd_F_ls.2.1) (hts _ cd_F_ls.2.2.2.1) (hF _ cd_F_st.2) hA
/-- the memory at the law's entry -/
def cd_M0 (L : Nat) (xs : Nat → Int32) : cd_M := ([(99, 0), (25, L)], (fun a k => if a = 1 then xs k else 0), (fun _ _ => 0), (fun _ _ => 0))
/-- WHAT IS LEFT: the small machine's run of the law -/
def cd_Law : Prop := ∀ (L : Nat) (xs : Nat → Int32), L ≤ 2560 → ∃ Mf : cd_M, cd_go 246 0 [.ref 1, .null, .null, .null] [] (cd_M0 L xs) = some (some (.int 1), Mf) ∧ Mf.1.length ≤ 133 ∧ cd_sl Mf.1 ≤ L + 23689
set_option maxHeartbeats 4000000 in
theorem cd_start (hLaw : cd_Law) {p : Program} {e : Env} {s : State} {m : MethodId} {below : List Frame} {meth : Method} {c : Code} (l : Launch) (hflags : l.flags = flags0) {b L : Nat} {xs : Nat → Int32} (hL : L ≤ 2560) (C0 : lw_At p s m meth c b L xs) : W p l e room_1 s m #[Value.ref b] below meth c s.heap [] 0 0 (lw_Z below #[Value.ref b] s) (entryFrame m ([Value.ref b] : List Value).toArray 4) := by
  obtain ⟨G, g1, g2, g3, g4, hE⟩ := cd_env hL C0
  obtain ⟨hx, hb, hr, hml, hown, hts, hX, hbl, hlocks, hgv⟩ := id C0
  obtain ⟨Mf, hgo, hf1, hf2⟩ := hLaw L xs hL
  obtain ⟨n, hn⟩ := cd_go_run hgo
  obtain ⟨o, ho⟩ := cd_run_some hn
  have X : cd_Cx p s m #[Value.ref b] c 246 := ⟨hx, hb, hml, hown, fun w hw => hts w (cd_W_tbl hw)⟩
  have hl := lv_entry ([.ref b]) (n := 4) (Nat.le_of_ble_eq_true rfl)
  rw [lg_entry_eq]
  generalize (lg_sl ([.ref b]) ++ List.replicate (4 - (lg_sl ([.ref b])).length) Slot.unset).toArray = lr at hl ⊢
  have e1 : cd_ad G 1 = b := g1
  have hl2 : cd_Ls G (cd_mx 246) [.ref 1, .null, .null, .null] lr := by
    refine cd_Ls.sub hl fun j v h1 h2 => ?_
    match j, h1 with
    | 0, h1 =>
      cases h1
      rw [cd_tv_ref (by omega), e1]
      exact List.mem_cons_self
    | 1, h1 => cases h1; cases h2
    | 2, h1 => cases h1; cases h2
    | 3, h1 => cases h1; cases h2
    | j + 4, h1 => simp at h1
  have sl0 : cd_sl (cd_M0 L xs).1 = L := by simp [cd_sl, cd_M0]
  have hP : cd_Rp G (cd_M0 L xs) s.heap := by
    refine ⟨by rw [g2]; rfl, Nat.le_refl _, by show 2 ≤ 900; omega, rfl, by rw [g3]; rfl, fun j hj => by rw [g4]; rfl, fun a h1 h2 => ?_⟩
    have h3 : a < 2 := h2
    omega
  have key := cd_sim l G n 246 (by omega) 0 _ [] _ _ o hn ho p e room_1 s m #[Value.ref b] below meth c (lw_Z below #[Value.ref b] s) 2 L X (fun h => absurd h (by decide)) hE (by decide) (by decide) (Nat.le_refl _) (by rw [sl0]; exact Nat.le_refl _) (by show Mf.1.length - 2 ≤ 131; omega) (by show cd_sl Mf.1 - L ≤ 23689; omega) (fun pc ls' hd hrok H locs lr' hP' hS' hl' => by
    refine va_forget (fun q hq => by have := hS'.2.2 q hq; unfold cd_A at this; rw [g2] at this; exact this) ?_
    refine W.widen (k := 131) (n := 23689) (by show Mf.1.length - 2 ≤ 131; omega) (by show cd_sl Mf.1 - L ≤ 23689; omega) ?_
    exact lw_ret hx hb hr hlocks hd)
  have h9 := key s.heap [] lr hP va_S.rf hl2
  rw [sl0, Nat.sub_self, cd_chk_0pc (by omega) ho] at h9
  exact h9
