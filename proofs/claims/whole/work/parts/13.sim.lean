/-! ===== a run of the small machine is a run of the big one ===== -/
def cd_Gr (M : cd_M) (κ : cd_X) (C : cd_C) (r : cd_Ret) : Prop := (∃ i l s0 m, κ i l s0 m = some r ∧ M.1 <+: m.1) ∨ (∃ y a q i l s0, C y a M = some q ∧ κ i l s0 q.2 = some r) ∨ r.2 = M
theorem cd_Gr.go {M m : cd_M} {κ : cd_X} {C : cd_C} {r : cd_Ret} {i l s0} (h : κ i l s0 m = some r) (hm : M.1 <+: m.1) : cd_Gr M κ C r := Or.inl ⟨i, l, s0, m, h, hm⟩
theorem cd_Gr.no {M : cd_M} {κ : cd_X} {C : cd_C} {r : cd_Ret} (h : (none : Option cd_Ret) = some r) : cd_Gr M κ C r := by cases h
theorem cd_Gr.ci {M : cd_M} {κ : cd_X} {C : cd_C} {r : cd_Ret} {y a} {i l} {s0 : Int32 × cd_M → List Value} (h : (cd_ci (C y a M)).bind (fun q => κ i l (s0 q) q.2) = some r) : cd_Gr M κ C r := by
  obtain ⟨v, m', h1, h2⟩ := cd_ci_s.mp h
  exact Or.inr (Or.inl ⟨_, _, _, _, _, _, h1, h2⟩)
theorem cd_Gr.cl {M : cd_M} {κ : cd_X} {C : cd_C} {r : cd_Ret} {y a} {i l} {s0 : Int64 × cd_M → List Value} (h : (cd_cl (C y a M)).bind (fun q => κ i l (s0 q) q.2) = some r) : cd_Gr M κ C r := by
  obtain ⟨v, m', h1, h2⟩ := cd_cl_s.mp h
  exact Or.inr (Or.inl ⟨_, _, _, _, _, _, h1, h2⟩)
theorem cd_Gr.cv {M : cd_M} {κ : cd_X} {C : cd_C} {r : cd_Ret} {y a} {i l} {s0 : List Value} (h : (cd_cv (C y a M)).bind (fun q => κ i l s0 q) = some r) : cd_Gr M κ C r := by
  obtain ⟨m', h1, h2⟩ := cd_cv_s.mp h
  exact Or.inr (Or.inl ⟨_, _, _, _, _, _, h1, h2⟩)
theorem cd_Gr.sw {M : cd_M} {ls st : List Value} {d : Nat} {x : Int32} {κ : cd_X} {C : cd_C} {r : cd_Ret} (ts : List Nat) : ∀ v : Int32, cd_sw (fun t => κ t ls st M) d x v ts = some r → cd_Gr M κ C r := by
  induction ts with
  | nil => exact fun v h => cd_Gr.go h List.prefix_rfl
  | cons t ts ih =>
    intro v h
    unfold cd_sw at h
    split at h
    · exact cd_Gr.go h List.prefix_rfl
    · exact ih _ h
set_option maxHeartbeats 8000000 in
theorem cd_gr {κ : cd_X} {C : cd_C} {o : cd_O} {ii : Nat} {ls st : List Value} {M : cd_M} {r : cd_Ret} (h : cd_step κ C o ii ls st M = some r) : cd_Gr M κ C r := by
  obtain ⟨i, p, c, a, b, t⟩ := o
  cases i
  case new _ =>
    simp only [cd_step] at h
    split at h
    · exact cd_Gr.go h (List.prefix_append _ _)
    · exact cd_Gr.no h
  case newarray _ =>
    simp only [cd_step] at h
    split at h
    · split at h
      · exact cd_Gr.no h
      · exact cd_Gr.go h (List.prefix_append _ _)
    · exact cd_Gr.no h
  case anewarray _ =>
    simp only [cd_step] at h
    split at h
    · split at h
      · exact cd_Gr.no h
      · exact cd_Gr.go h (List.prefix_append _ _)
    · exact cd_Gr.no h
  case tableswitch _ _ _ _ =>
    simp only [cd_step] at h
    split at h
    · exact cd_Gr.sw _ _ h
    · exact cd_Gr.no h
  case ifCond c _ =>
    simp only [cd_step] at h
    split at h
    · cases c <;> (dsimp only at h; split at h <;> exact cd_Gr.go h List.prefix_rfl)
    · exact cd_Gr.no h
  case if_icmp c _ =>
    simp only [cd_step] at h
    split at h
    · cases c <;> (dsimp only at h; split at h <;> exact cd_Gr.go h List.prefix_rfl)
    · exact cd_Gr.no h
  case invokevirtual _ =>
    simp only [cd_step] at h
    split at h
    · split at h
      · cases hb : Nat.ble _ 8 <;> rw [hb] at h
        · exact cd_Gr.no h
        · dsimp only [cond] at h
          split at h
          · exact cd_Gr.go h List.prefix_rfl
          · exact cd_Gr.no h
      · exact cd_Gr.no h
    · split at h
      · cases hb : Nat.ble _ 8 <;> rw [hb] at h
        · exact cd_Gr.no h
        · dsimp only [cond] at h
          split at h
          · exact cd_Gr.go h List.prefix_rfl
          · exact cd_Gr.no h
      · exact cd_Gr.no h
    · split at h
      · cases hb : Nat.ble _ 8 <;> rw [hb] at h
        · exact cd_Gr.no h
        · dsimp only [cond] at h
          split at h
          · split at h
            · exact cd_Gr.ci h
            · exact cd_Gr.cl h
            · exact cd_Gr.cv h
            · exact cd_Gr.no h
          · exact cd_Gr.no h
      · exact cd_Gr.no h
  case invokestatic _ =>
    simp only [cd_step] at h
    split at h
    · split at h
      · cases hb : Nat.ble _ 8 <;> rw [hb] at h
        · exact cd_Gr.no h
        · dsimp only [cond] at h
          split at h
          · exact cd_Gr.go h List.prefix_rfl
          · exact cd_Gr.no h
      · exact cd_Gr.no h
    · split at h
      · cases hb : Nat.ble _ 8 <;> rw [hb] at h
        · exact cd_Gr.no h
        · exact cd_Gr.go h List.prefix_rfl
      · exact cd_Gr.no h
    · split at h
      · cases hb : Nat.ble _ 8 <;> rw [hb] at h
        · exact cd_Gr.no h
        · exact cd_Gr.go h List.prefix_rfl
      · exact cd_Gr.no h
    · split at h
      · cases hb : Nat.ble _ 8 <;> rw [hb] at h
        · exact cd_Gr.no h
        · exact cd_Gr.go h List.prefix_rfl
      · exact cd_Gr.no h
    · cases hb : (Nat.ble _ _ && Nat.ble _ 8) <;> rw [hb] at h
      · exact cd_Gr.no h
      · dsimp only [cond] at h
        split at h
        · exact cd_Gr.ci h
        · exact cd_Gr.cl h
        · exact cd_Gr.cv h
        · exact cd_Gr.no h
  case invokespecial _ =>
    simp only [cd_step] at h
    split at h
    · cases hb : Nat.ble _ 8 <;> rw [hb] at h
      · exact cd_Gr.no h
      · dsimp only [cond] at h
        split at h
        · split at h
          · exact cd_Gr.go h List.prefix_rfl
          · exact cd_Gr.no h
        · split at h
          · exact cd_Gr.cv h
          · exact cd_Gr.no h
    · exact cd_Gr.no h
  case ireturn =>
    simp only [cd_step] at h
    split at h
    · split at h
      · split at h
        · cases h; exact Or.inr (Or.inr rfl)
        · cases h
      · cases h; exact Or.inr (Or.inr rfl)
    · cases h
  case lreturn =>
    simp only [cd_step] at h
    split at h
    · cases h; exact Or.inr (Or.inr rfl)
    · cases h
  case return_ =>
    simp only [cd_step] at h
    split at h
    · cases h; exact Or.inr (Or.inr rfl)
    · cases h
  case getfield _ =>
    simp only [cd_step] at h
    split at h
    · split at h
      · split at h
        · exact cd_Gr.go h List.prefix_rfl
        · exact cd_Gr.go h List.prefix_rfl
        · exact cd_Gr.go h List.prefix_rfl
        · exact cd_Gr.no h
      · exact cd_Gr.no h
    · exact cd_Gr.no h
  all_goals (simp only [cd_step] at h)
  all_goals first
    | exact cd_Gr.no h
    | exact cd_Gr.go h List.prefix_rfl
    | (split at h <;> first
        | exact cd_Gr.no h
        | exact cd_Gr.go h List.prefix_rfl
        | (split at h <;> first
            | exact cd_Gr.no h
            | exact cd_Gr.go h List.prefix_rfl
            | (split at h <;> first
                | exact cd_Gr.no h
                | exact cd_Gr.go h List.prefix_rfl
                | (split at h <;> first
                    | exact cd_Gr.no h
                    | exact cd_Gr.go h List.prefix_rfl))))
theorem cd_grow : ∀ (n y ii : Nat) (ls st : List Value) (M : cd_M) (r : cd_Ret), cd_run n y ii ls st M = some r → M.1 <+: r.2.1 := by
  intro n
  induction n with
  | zero => intro y ii ls st M r h; cases h
  | succ n ih =>
    intro y ii ls st M r h
    unfold cd_run at h
    split at h
    · cases h
    · rcases cd_gr h with ⟨i, l, s0, m, h1, h2⟩ | ⟨y', a, q, i, l, s0, h1, h2⟩ | h1
      · exact h2.trans (ih _ _ _ _ _ _ h1)
      · unfold cd_call at h1
        cases hb : Nat.ble (cd_args a).length (cd_mx y') && a.all cd_nz with
        | false => rw [hb] at h1; cases h1
        | true => rw [hb] at h1; exact (ih _ _ _ _ _ _ h1).trans (ih _ _ _ _ _ _ h2)
      · rw [h1]; exact List.prefix_rfl
theorem cd_sl_pre {K K' : List (Nat × Nat)} (h : K <+: K') : cd_sl K ≤ cd_sl K' := by
  obtain ⟨t, rfl⟩ := h
  simp [cd_sl]
theorem cd_pcs_spec {y t pc : Nat} {off : Int} (h : cd_pcs y t off pc = true) : ∃ o, (cd_body y)[t]? = some o ∧ (pc : Int) + off = (o.2.1 : Int) := by
  unfold cd_pcs at h
  split at h
  · rename_i o ho
    exact ⟨o, ho, of_decide_eq_true h⟩
  · cases h
theorem cd_swch_spec {y pc : Nat} : ∀ (ts : List Nat) (os : List Int), cd_swch y pc ts os = true → ts.length = os.length ∧ ∀ (j t : Nat), ts[j]? = some t → ∃ off : Int, os[j]? = some off ∧ cd_pcs y t off pc = true
  | [], [], _ => ⟨rfl, fun j t h => by simp at h⟩
  | [], _ :: _, h => by cases h
  | _ :: _, [], h => by cases h
  | t :: ts, o :: os, h => by
    unfold cd_swch at h
    rw [Bool.and_eq_true] at h
    obtain ⟨h1, h2⟩ := cd_swch_spec ts os h.2
    refine ⟨by simp [h1], fun j t' hj => ?_⟩
    cases j with
    | zero => simp at hj; subst hj; exact ⟨o, by simp, h.1⟩
    | succ j => simpa using h2 j t' (by simpa using hj)
theorem cd_ofInt {z : Int} (h1 : -1000000 ≤ z) (h2 : z ≤ 1000000) : (Int32.ofInt z).toInt = z := by
  first
    | exact Int32.toInt_ofInt_of_le (by omega) (by omega)
    | (rw [Int32.toInt_ofInt]; exact Int.bmod_eq_of_le (by simp [Int32.size]; omega) (by simp [Int32.size]; omega))
theorem cd_sw_spec {κ : Nat → Option cd_Ret} {d : Nat} {x : Int32} {r : cd_Ret} : ∀ (ts : List Nat) (lo : Int), -1000 ≤ lo → lo + ts.length ≤ 3000 → cd_sw κ d x (Int32.ofInt lo) ts = some r → (∃ (j t : Nat), ts[j]? = some t ∧ x.toInt = lo + j ∧ κ t = some r) ∨ ((x.toInt < lo ∨ lo + ts.length - 1 < x.toInt) ∧ κ d = some r) := by
  intro ts
  induction ts with
  | nil =>
    intro lo h1 h2 h
    refine Or.inr ⟨?_, h⟩
    simp only [List.length_nil]
    omega
  | cons t ts ih =>
    intro lo h1 h2 h
    unfold cd_sw at h
    simp only [List.length_cons] at h2
    have e0 := cd_ofInt (z := lo) (by omega) (by omega)
    split at h
    · rename_i hx
      exact Or.inl ⟨0, t, by simp, by rw [hx, e0]; omega, h⟩
    · rename_i hx
      have hne : x.toInt ≠ lo := fun q => hx (Int32.toInt_inj.mp (by rw [e0]; exact q))
      have e1 : Int32.ofInt lo + 1 = Int32.ofInt (lo + 1) := by
        rw [Int32.ofInt_add]
        rfl
      rw [e1] at h
      rcases ih (lo + 1) (by omega) (by omega) h with ⟨j, t', g1, g2, g3⟩ | ⟨g1, g2⟩
      · exact Or.inl ⟨j + 1, t', by simpa using g1, by rw [g2]; omega, g3⟩
      · refine Or.inr ⟨?_, g2⟩
        simp only [List.length_cons]
        omega
theorem cd_bo1 {v : Int32} (h : v &&& 1 = v) : v = 0 ∨ v = 1 := by
  obtain ⟨j, hj, e⟩ := pk_andE v (m := 1) 1 (by decide)
  rw [← h, e]
  rcases (show j = 0 ∨ j = 1 by omega) with rfl | rfl
  · exact Or.inl rfl
  · exact Or.inr rfl
def cd_ri (v : Option Value) : Instr := match v with
  | none => .return_
  | some (.long _) => .lreturn
  | some _ => .ireturn
def cd_rok (v : Option Value) (t : Option FieldType) : Prop := match v with
  | none => t = none
  | some (.int v) => t = some .int ∨ (t = some .boolean ∧ v &&& 1 = v)
  | some (.long _) => t = some .long
  | _ => False
theorem cd_aux_st {y ii len i pc a b : Nat} {cst : Value} {t : List Nat} (hy : y < 247) (h9 : a ≠ 9000) (h4 : a ≠ 9004) (h5 : a ≠ 9005) (h6 : a ≠ 9006) (hax : cd_aux y ii (.invokestatic i, pc, cst, a, b, t) len = true) : len = 3 ∧ Cond.methodLink (cd_own y) i (cd_mn a) ∈ cd_W ∧ cd_callee y a b = true ∧ Cond.static (cd_mn a) ∈ cd_W := by
  simp only [cd_aux] at hax
  · simp only [Bool.and_eq_true, beq_iff_eq] at hax
    obtain ⟨q1, q2, q3, q4, q5⟩ := hax
    have ha := (cd_callee_spec q3).1
    obtain ⟨-, -, -, -, -, q8, -⟩ := cd_mok_spec ha
    have q2 := cd_isM_in hy q2
    rw [cd_mname_lt ha] at q2
    exact ⟨q1, q2, q3, q8 (Nat.eq_of_beq_eq_true q5)⟩
theorem cd_aux_vi {y ii len i pc a b : Nat} {cst : Value} {t : List Nat} (hy : y < 247) (h9 : a ≠ 9002) (h8 : a ≠ 9003) (hax : cd_aux y ii (.invokevirtual i, pc, cst, a, b, t) len = true) : len = 3 ∧ Cond.methodLink (cd_own y) i (cd_mn a) ∈ cd_W ∧ cd_callee y a b = true ∧ Cond.instanceMethod (cd_mn a) ∈ cd_W ∧ Cond.selects (cd_mn a).cls (cd_mn a) (cd_mn a) ∈ cd_W ∧ ∃ c r, t = c :: r ∧ c < 12 ∧ (cd_mn a).cls = cd_cn c := by
  simp only [cd_aux] at hax
  · simp only [Bool.and_eq_true, beq_iff_eq] at hax
    obtain ⟨q1, q2, q3, q4, q5, q7⟩ := hax
    have ha := (cd_callee_spec q3).1
    obtain ⟨-, -, -, -, -, -, q8, -⟩ := cd_mok_spec ha
    have q2 := cd_isM_in hy q2
    rw [cd_mname_lt ha] at q2
    obtain ⟨z1, z2, z3⟩ := q8 (Nat.eq_of_beq_eq_true q5)
    refine ⟨q1, q2, q3, z1, z2, ?_⟩
    cases t with
    | nil => cases q7
    | cons c r =>
      simp only [Bool.and_eq_true] at q7
      exact ⟨c, r, rfl, Nat.blt_eq.mp q7.1, by rw [← Nat.eq_of_beq_eq_true q7.2]; exact z3⟩
theorem cd_aux_sp {y ii len i pc a b : Nat} {cst : Value} {t : List Nat} (hy : y < 247) (h9 : a ≠ 9001) (hax : cd_aux y ii (.invokespecial i, pc, cst, a, b, t) len = true) : len = 3 ∧ (Cond.methodLink (cd_own y) i (cd_mn a) ∈ cd_W ∨ Cond.methodLinkNest (cd_own y) i (cd_mn a) "ChairDen" ∈ lw_tbl) ∧ cd_callee y a 0 = true ∧ Cond.instanceMethod (cd_mn a) ∈ cd_W ∧ cd_rt a = none ∧ (cd_mn a).name = "<init>" ∧ b < 12 ∧ (cd_mn a).cls = cd_cn b := by
  simp only [cd_aux] at hax
  · simp only [Bool.and_eq_true, Bool.or_eq_true, beq_iff_eq] at hax
    obtain ⟨q1, q2, q3, q4, q7, q8⟩ := hax
    have ha := (cd_callee_spec q3).1
    obtain ⟨-, -, -, -, -, -, -, z⟩ := cd_mok_spec ha
    obtain ⟨z1, z2, z3, z4⟩ := z (Nat.eq_of_beq_eq_true q4)
    refine ⟨q1, ?_, q3, z1, z3, z2, Nat.blt_eq.mp q7, by rw [← Nat.eq_of_beq_eq_true q8]; exact z4⟩
    rcases q2 with q2 | q2
    · have q2 := cd_isM_in hy q2
      rw [cd_mname_lt ha] at q2
      exact Or.inl q2
    · have q2 := cd_isM_nest hy q2
      rw [cd_mname_lt ha] at q2
      exact Or.inr q2
theorem cd_step_st {κ : cd_X} {C : cd_C} {ii i pc a b : Nat} {cst : Value} {t : List Nat} {ls st : List Value} {M : cd_M} (h9 : a ≠ 9000) (h4 : a ≠ 9004) (h5 : a ≠ 9005) (h6 : a ≠ 9006) : cd_step κ C (.invokestatic i, pc, cst, a, b, t) ii ls st M = bif Nat.ble b st.length && Nat.ble (cd_cat (st.drop b)) 8 then (match cst with
          | .int _ => (cd_ci (C a (st.take b).reverse M)).bind fun q => κ (ii + 1) ls (.int q.1 :: st.drop b) q.2
          | .long _ => (cd_cl (C a (st.take b).reverse M)).bind fun q => κ (ii + 1) ls (.long q.1 :: st.drop b) q.2
          | .null => (cd_cv (C a (st.take b).reverse M)).bind fun q => κ (ii + 1) ls (st.drop b) q
          | _ => none) else none := by
  simp only [cd_step]
  cases cst <;> rfl
theorem cd_step_vi {κ : cd_X} {C : cd_C} {ii i pc a b c ob : Nat} {cst : Value} {t : List Nat} {ls st rest : List Value} {M : cd_M} (h9 : a ≠ 9002) (h8 : a ≠ 9003) (hst : st.drop b = .ref ob :: rest) : cd_step κ C (.invokevirtual i, pc, cst, a, b, c :: t) ii ls st M = bif Nat.ble (cd_cat rest) 8 then (if cd_k M ob = c then (match cst with
          | .int _ => (cd_ci (C a (.ref ob :: (st.take b).reverse) M)).bind fun q => κ (ii + 1) ls (.int q.1 :: rest) q.2
          | .long _ => (cd_cl (C a (.ref ob :: (st.take b).reverse) M)).bind fun q => κ (ii + 1) ls (.long q.1 :: rest) q.2
          | .null => (cd_cv (C a (.ref ob :: (st.take b).reverse) M)).bind fun q => κ (ii + 1) ls rest q
          | _ => none) else none) else none := by
  simp only [cd_step, hst, List.headD_cons]
  cases cst <;> rfl
theorem cd_step_vi0 {κ : cd_X} {C : cd_C} {ii i pc a b : Nat} {cst : Value} {t : List Nat} {ls st : List Value} {M : cd_M} {r : cd_Ret} (h9 : a ≠ 9002) (h8 : a ≠ 9003) (h : cd_step κ C (.invokevirtual i, pc, cst, a, b, t) ii ls st M = some r) : ∃ ob rest, st.drop b = .ref ob :: rest := by
  simp only [cd_step] at h
  split at h
  · rename_i ob rest hst
    exact ⟨ob, rest, hst⟩
  · cases h
theorem cd_step_sp {κ : cd_X} {C : cd_C} {ii i pc a b ob : Nat} {cst : Value} {t : List Nat} {ls rest : List Value} {M : cd_M} (h9 : a ≠ 9001) : cd_step κ C (.invokespecial i, pc, cst, a, b, t) ii ls (.ref ob :: rest) M = bif Nat.ble (cd_cat rest) 8 then (if cd_k M ob = b then (cd_cv (C a [.ref ob] M)).bind fun q => κ (ii + 1) ls rest q else none) else none := by
  simp only [cd_step]
section CDS
variable {p : Program} {l : Launch} {e : Env} {R : Room} {s : State} {m : MethodId} {args : Array Value} {below : List Frame} {meth : Method} {c : Code} {Q : State → Prop} {G : cd_G} {y k0 s0 ii len : Nat} {ls st : List Value} {M : cd_M}
theorem cd_o_ldcS (X : cd_Cx p s m args c y) (E : cd_Ev G s s.heap) {i k pc : Nat} (hd : decode (cd_cc y) pc = .ok (.ldc i, 2)) (h1 : 1000 ≤ k) (h2 : k < 1015) (hw : Cond.stringRef (cd_own y) i (String.ofList ((cd_str k).map Char.ofNat)) ∈ lw_tbl) (kk : cd_At p l e R s m args below meth c Q G y k0 s0 (pc + 2) ls (.ref k :: st) M) : cd_At p l e R s m args below meth c Q G y k0 s0 pc ls st M := fun H locs lr hP hS hl => by
  have h9 := kk H locs lr hP hS hl
  rw [List.map_cons, cd_tv_ref (by omega)] at h9
  exact va_ldcS X.1 X.2.1 X.2.2.2.1 (E.2.2.2.2.1 _ _ _ hw k rfl h1 h2) hd h9
set_option maxHeartbeats 16000000 in
theorem cd_one (hy : y < 247) (X : cd_Cx p s m args c y) (hnm : (cd_mn y).name = "<init>" → meth.name = "<init>") (E : cd_Ev G s s.heap) (hf : cd_fr y ≤ R.frames) (hlo : cd_lo y ≤ R.locals) {r : cd_Ret} (hk0 : k0 ≤ M.1.length) (hs0 : s0 ≤ cd_sl M.1) (hR1 : r.2.1.length - k0 ≤ R.cells) (hR2 : cd_sl r.2.1 - s0 ≤ R.slots) {κ : cd_X} {C : cd_C} {o : cd_O}
    (hd : decode (cd_cc y) o.2.1 = .ok (o.1, len)) (hax : cd_aux y ii o len = true)
    (nx : ∀ ls' st' M', κ (ii + 1) ls' st' M' = some r → M.1 <+: M'.1 → M'.1 <+: r.2.1 ∧ cd_At p l e R s m args below meth c Q G y k0 s0 (o.2.1 + len) ls' st' M')
    (jp : ∀ t o', (cd_body y)[t]? = some o' → ∀ ls' st', κ t ls' st' M = some r → cd_At p l e R s m args below meth c Q G y k0 s0 o'.2.1 ls' st' M)
    (cl : ∀ a as r1, a < 246 → C a as M = some r1 → cd_Met l G a as M r1 ∧ M.1 <+: r1.2.1)
    (sl : ∀ (i a : Nat) (pc : Nat) (st' : List Value), decode (cd_cc y) pc = .ok (.invokevirtual i, 3) → Cond.methodLink (cd_own y) i ⟨"java/lang/String", "length", "()I"⟩ ∈ cd_W → 2 ≤ R.frames → 60 ≤ R.locals → 1000 ≤ a → a < 1015 → cd_cat st' ≤ 8 → cd_At p l e R s m args below meth c Q G y k0 s0 (pc + 3) ls (.int (Int32.ofNat (cd_str a).length) :: st') M → cd_At p l e R s m args below meth c Q G y k0 s0 pc ls (.ref a :: st') M)
    (sc : ∀ (i a : Nat) (j : Int32) (pc : Nat) (st' : List Value), decode (cd_cc y) pc = .ok (.invokevirtual i, 3) → Cond.methodLink (cd_own y) i ⟨"java/lang/String", "charAt", "(I)C"⟩ ∈ cd_W → 4 ≤ R.frames → 120 ≤ R.locals → 1000 ≤ a → a < 1015 → cd_in j (cd_str a).length = true → cd_cat st' ≤ 8 → cd_At p l e R s m args below meth c Q G y k0 s0 (pc + 3) ls (.int (Int32.ofNat ((cd_str a).getD j.toNatClampNeg 0)) :: st') M → cd_At p l e R s m args below meth c Q G y k0 s0 pc ls (.int j :: .ref a :: st') M)
    (hret : ∀ (pc : Nat) (st' : List Value), decode (cd_cc y) pc = .ok (cd_ri r.1, 1) → cd_rok r.1 (cd_rt y) → r.2 = M → st' = r.1.toList → cd_At p l e R s m args below meth c Q G y k0 s0 pc ls st' M)
    (h : cd_step κ C o ii ls st M = some r) : cd_At p l e R s m args below meth c Q G y k0 s0 o.2.1 ls st M := by
  obtain ⟨i, pc, cst, a, b, t⟩ := o
  dsimp only at hd hax nx ⊢
  cases i
  case iload i =>
    have hl : len = 2 := by simpa [cd_aux] using hax
    subst hl
    simp only [cd_step] at h
    split at h
    · rename_i he
      exact cd_o_iload X hd he (nx _ _ _ h List.prefix_rfl).2
    · cases h
  case iload_n i =>
    have hl : len = 1 := by simpa [cd_aux] using hax
    subst hl
    simp only [cd_step] at h
    split at h
    · rename_i he
      exact cd_o_iload_n X hd he (nx _ _ _ h List.prefix_rfl).2
    · cases h
  case lload i =>
    have hl : len = 2 := by simpa [cd_aux] using hax
    subst hl
    simp only [cd_step] at h
    split at h
    · rename_i he
      exact cd_o_lload X hd he (nx _ _ _ h List.prefix_rfl).2
    · cases h
  case lload_n i =>
    have hl : len = 1 := by simpa [cd_aux] using hax
    subst hl
    simp only [cd_step] at h
    split at h
    · rename_i he
      exact cd_o_lload_n X hd he (nx _ _ _ h List.prefix_rfl).2
    · cases h
  case aload i =>
    have hl : len = 2 := by simpa [cd_aux] using hax
    subst hl
    simp only [cd_step] at h
    split at h
    · rename_i he
      exact cd_o_aload X hd he (nx _ _ _ h List.prefix_rfl).2
    · cases h
  case aload_n i =>
    have hl : len = 1 := by simpa [cd_aux] using hax
    subst hl
    simp only [cd_step] at h
    split at h
    · rename_i he
      exact cd_o_aload_n X hd he (nx _ _ _ h List.prefix_rfl).2
    · cases h
  case istore i =>
    simp only [cd_aux, Bool.and_eq_true, beq_iff_eq] at hax
    obtain ⟨rfl, hi⟩ := hax
    have hi := Nat.blt_eq.mp hi
    simp only [cd_step] at h
    split at h
    · exact cd_o_istore X hd hi (nx _ _ _ h List.prefix_rfl).2
    · cases h
  case istore_n i =>
    simp only [cd_aux, Bool.and_eq_true, beq_iff_eq] at hax
    obtain ⟨rfl, hi⟩ := hax
    have hi := Nat.blt_eq.mp hi
    simp only [cd_step] at h
    split at h
    · exact cd_o_istore_n X hd hi (nx _ _ _ h List.prefix_rfl).2
    · cases h
  case astore i =>
    simp only [cd_aux, Bool.and_eq_true, beq_iff_eq] at hax
    obtain ⟨rfl, hi⟩ := hax
    have hi := Nat.blt_eq.mp hi
    simp only [cd_step] at h
    split at h
    · exact cd_o_astore X hd hi (nx _ _ _ h List.prefix_rfl).2
    · cases h
  case astore_n i =>
    simp only [cd_aux, Bool.and_eq_true, beq_iff_eq] at hax
    obtain ⟨rfl, hi⟩ := hax
    have hi := Nat.blt_eq.mp hi
    simp only [cd_step] at h
    split at h
    · exact cd_o_astore_n X hd hi (nx _ _ _ h List.prefix_rfl).2
    · cases h
  case lstore i =>
    simp only [cd_aux, Bool.and_eq_true, beq_iff_eq] at hax
    obtain ⟨rfl, hi⟩ := hax
    have hi := Nat.blt_eq.mp hi
    simp only [cd_step] at h
    split at h
    · exact cd_o_lstore X hd hi (nx _ _ _ h List.prefix_rfl).2
    · cases h
  case lstore_n i =>
    simp only [cd_aux, Bool.and_eq_true, beq_iff_eq] at hax
    obtain ⟨rfl, hi⟩ := hax
    have hi := Nat.blt_eq.mp hi
    simp only [cd_step] at h
    split at h
    · exact cd_o_lstore_n X hd hi (nx _ _ _ h List.prefix_rfl).2
    · cases h
  case iinc i n =>
    simp only [cd_aux, Bool.and_eq_true, beq_iff_eq, decide_eq_true_eq] at hax
    obtain ⟨rfl, hi, rfl⟩ := hax
    have hi := Nat.blt_eq.mp hi
    simp only [cd_step] at h
    split at h
    · rename_i he hc
      cases hc
      exact cd_o_iinc X hd he hi rfl (nx _ _ _ h List.prefix_rfl).2
    · cases h
  case iconst n =>
    simp only [cd_aux, Bool.and_eq_true, beq_iff_eq, decide_eq_true_eq] at hax
    obtain ⟨rfl, rfl⟩ := hax
    simp only [cd_step] at h
    exact cd_o_iconst X hd rfl (nx _ _ _ h List.prefix_rfl).2
  case bipush n =>
    simp only [cd_aux, Bool.and_eq_true, beq_iff_eq, decide_eq_true_eq] at hax
    obtain ⟨rfl, rfl⟩ := hax
    simp only [cd_step] at h
    exact cd_o_bipush X hd rfl (nx _ _ _ h List.prefix_rfl).2
  case sipush n =>
    simp only [cd_aux, Bool.and_eq_true, beq_iff_eq, decide_eq_true_eq] at hax
    obtain ⟨rfl, rfl⟩ := hax
    simp only [cd_step] at h
    exact cd_o_sipush X hd rfl (nx _ _ _ h List.prefix_rfl).2
  case lconst n =>
    simp only [cd_aux, Bool.and_eq_true, beq_iff_eq, decide_eq_true_eq] at hax
    obtain ⟨rfl, rfl⟩ := hax
    simp only [cd_step] at h
    exact cd_o_lconst X hd rfl (nx _ _ _ h List.prefix_rfl).2
  case ldc i =>
    simp only [cd_aux, Bool.and_eq_true, beq_iff_eq] at hax
    obtain ⟨rfl, hw⟩ := hax
    simp only [cd_step] at h
    cases cst with
    | int v => exact cd_o_ldc X hd (cd_isK_i hy hw) (nx _ _ _ h List.prefix_rfl).2
    | ref k =>
      obtain ⟨hw1, hw2, hw3⟩ := cd_isS_in hy hw
      exact cd_o_ldcS X E hd hw1 hw2 hw3 (nx _ _ _ h List.prefix_rfl).2
    | _ => cases hw
  case ldc_w i =>
    simp only [cd_aux, Bool.and_eq_true, beq_iff_eq] at hax
    obtain ⟨rfl, hw⟩ := hax
    simp only [cd_step] at h
    cases cst with
    | int v => exact cd_o_ldc_w X hd (cd_isK_i hy hw) (nx _ _ _ h List.prefix_rfl).2
    | _ => cases hw
  case ldc2_w i =>
    simp only [cd_aux, Bool.and_eq_true, beq_iff_eq] at hax
    obtain ⟨rfl, hw⟩ := hax
    simp only [cd_step] at h
    cases cst with
    | long v => exact cd_o_ldc2_w X hd (cd_isK_l hy hw) (nx _ _ _ h List.prefix_rfl).2
    | _ => cases hw
  case iadd =>
    have hl : len = 1 := by simpa [cd_aux] using hax
    subst hl
    simp only [cd_step] at h
    split at h
    · exact cd_o_iadd X hd (nx _ _ _ h List.prefix_rfl).2
    · cases h
  case isub =>
    have hl : len = 1 := by simpa [cd_aux] using hax
    subst hl
    simp only [cd_step] at h
    split at h
    · exact cd_o_isub X hd (nx _ _ _ h List.prefix_rfl).2
    · cases h
  case imul =>
    have hl : len = 1 := by simpa [cd_aux] using hax
    subst hl
    simp only [cd_step] at h
    split at h
    · exact cd_o_imul X hd (nx _ _ _ h List.prefix_rfl).2
    · cases h
  case iand =>
    have hl : len = 1 := by simpa [cd_aux] using hax
    subst hl
    simp only [cd_step] at h
    split at h
    · exact cd_o_iand X hd (nx _ _ _ h List.prefix_rfl).2
    · cases h
  case ior =>
    have hl : len = 1 := by simpa [cd_aux] using hax
    subst hl
    simp only [cd_step] at h
    split at h
    · exact cd_o_ior X hd (nx _ _ _ h List.prefix_rfl).2
    · cases h
  case ixor =>
    have hl : len = 1 := by simpa [cd_aux] using hax
    subst hl
    simp only [cd_step] at h
    split at h
    · exact cd_o_ixor X hd (nx _ _ _ h List.prefix_rfl).2
    · cases h
  case ineg =>
    have hl : len = 1 := by simpa [cd_aux] using hax
    subst hl
    simp only [cd_step] at h
    split at h
    · exact cd_o_ineg X hd (nx _ _ _ h List.prefix_rfl).2
    · cases h
  case ishl =>
    have hl : len = 1 := by simpa [cd_aux] using hax
    subst hl
    simp only [cd_step] at h
    split at h
    · exact cd_o_ishl X hd (nx _ _ _ h List.prefix_rfl).2
    · cases h
  case ishr =>
    have hl : len = 1 := by simpa [cd_aux] using hax
    subst hl
    simp only [cd_step] at h
    split at h
    · exact cd_o_ishr X hd (nx _ _ _ h List.prefix_rfl).2
    · cases h
  case iushr =>
    have hl : len = 1 := by simpa [cd_aux] using hax
    subst hl
    simp only [cd_step] at h
    split at h
    · exact cd_o_iushr X hd (nx _ _ _ h List.prefix_rfl).2
    · cases h
  case ladd =>
    have hl : len = 1 := by simpa [cd_aux] using hax
    subst hl
    simp only [cd_step] at h
    split at h
    · exact cd_o_ladd X hd (nx _ _ _ h List.prefix_rfl).2
    · cases h
  case lsub =>
    have hl : len = 1 := by simpa [cd_aux] using hax
    subst hl
    simp only [cd_step] at h
    split at h
    · exact cd_o_lsub X hd (nx _ _ _ h List.prefix_rfl).2
    · cases h
  case lmul =>
    have hl : len = 1 := by simpa [cd_aux] using hax
    subst hl
    simp only [cd_step] at h
    split at h
    · exact cd_o_lmul X hd (nx _ _ _ h List.prefix_rfl).2
    · cases h
  case land =>
    have hl : len = 1 := by simpa [cd_aux] using hax
    subst hl
    simp only [cd_step] at h
    split at h
    · exact cd_o_land X hd (nx _ _ _ h List.prefix_rfl).2
    · cases h
  case lor =>
    have hl : len = 1 := by simpa [cd_aux] using hax
    subst hl
    simp only [cd_step] at h
    split at h
    · exact cd_o_lor X hd (nx _ _ _ h List.prefix_rfl).2
    · cases h
  case lxor =>
    have hl : len = 1 := by simpa [cd_aux] using hax
    subst hl
    simp only [cd_step] at h
    split at h
    · exact cd_o_lxor X hd (nx _ _ _ h List.prefix_rfl).2
    · cases h
  case lneg =>
    have hl : len = 1 := by simpa [cd_aux] using hax
    subst hl
    simp only [cd_step] at h
    split at h
    · exact cd_o_lneg X hd (nx _ _ _ h List.prefix_rfl).2
    · cases h
  case lshl =>
    have hl : len = 1 := by simpa [cd_aux] using hax
    subst hl
    simp only [cd_step] at h
    split at h
    · exact cd_o_lshl X hd (nx _ _ _ h List.prefix_rfl).2
    · cases h
  case lshr =>
    have hl : len = 1 := by simpa [cd_aux] using hax
    subst hl
    simp only [cd_step] at h
    split at h
    · exact cd_o_lshr X hd (nx _ _ _ h List.prefix_rfl).2
    · cases h
  case lushr =>
    have hl : len = 1 := by simpa [cd_aux] using hax
    subst hl
    simp only [cd_step] at h
    split at h
    · exact cd_o_lushr X hd (nx _ _ _ h List.prefix_rfl).2
    · cases h
  case lcmp =>
    have hl : len = 1 := by simpa [cd_aux] using hax
    subst hl
    simp only [cd_step] at h
    split at h
    · exact cd_o_lcmp X hd (nx _ _ _ h List.prefix_rfl).2
    · cases h
  case i2l =>
    have hl : len = 1 := by simpa [cd_aux] using hax
    subst hl
    simp only [cd_step] at h
    split at h
    · exact cd_o_i2l X hd (nx _ _ _ h List.prefix_rfl).2
    · cases h
  case l2i =>
    have hl : len = 1 := by simpa [cd_aux] using hax
    subst hl
    simp only [cd_step] at h
    split at h
    · exact cd_o_l2i X hd (nx _ _ _ h List.prefix_rfl).2
    · cases h
  case idiv =>
    have hl : len = 1 := by simpa [cd_aux] using hax
    subst hl
    simp only [cd_step] at h
    split at h
    · split at h
      · cases h
      · rename_i hb
        exact cd_o_idiv X hd hb (nx _ _ _ h List.prefix_rfl).2
    · cases h
  case irem =>
    have hl : len = 1 := by simpa [cd_aux] using hax
    subst hl
    simp only [cd_step] at h
    split at h
    · split at h
      · cases h
      · rename_i hb
        exact cd_o_irem X hd hb (nx _ _ _ h List.prefix_rfl).2
    · cases h
  case lrem =>
    have hl : len = 1 := by simpa [cd_aux] using hax
    subst hl
    simp only [cd_step] at h
    split at h
    · split at h
      · cases h
      · rename_i hb
        exact cd_o_lrem X hd hb (nx _ _ _ h List.prefix_rfl).2
    · cases h
  case dup =>
    have hl : len = 1 := by simpa [cd_aux] using hax
    subst hl
    simp only [cd_step] at h
    split at h
    · exact cd_o_dup X hd rfl (nx _ _ _ h List.prefix_rfl).2
    · exact cd_o_dup X hd rfl (nx _ _ _ h List.prefix_rfl).2
    · cases h
  case dup2 =>
    have hl : len = 1 := by simpa [cd_aux] using hax
    subst hl
    simp only [cd_step] at h
    split at h
    · exact cd_o_dup2 X hd rfl rfl (nx _ _ _ h List.prefix_rfl).2
    · exact cd_o_dup2l X hd (nx _ _ _ h List.prefix_rfl).2
    · cases h
  case goto off =>
    simp only [cd_aux, Bool.and_eq_true, beq_iff_eq] at hax
    obtain ⟨rfl, hp⟩ := hax
    obtain ⟨o', h1, h2⟩ := cd_pcs_spec hp
    simp only [cd_step] at h
    exact cd_o_goto X hd h2 (jp _ _ h1 _ _ h)
  case ifCond cc off =>
    simp only [cd_aux, Bool.and_eq_true, beq_iff_eq] at hax
    obtain ⟨rfl, hp⟩ := hax
    obtain ⟨o', h1, h2⟩ := cd_pcs_spec hp
    simp only [cd_step] at h
    split at h
    · cases cc
      case eq => exact cd_o_if_eq X hd h2 (fun q => by dsimp only at h; rw [if_pos q] at h; exact jp _ _ h1 _ _ h) (fun q => by dsimp only at h; rw [if_neg q] at h; exact (nx _ _ _ h List.prefix_rfl).2)
      case ne => exact cd_o_if_ne X hd h2 (fun q => by dsimp only at h; rw [if_neg q] at h; exact jp _ _ h1 _ _ h) (fun q => by dsimp only at h; rw [if_pos q] at h; exact (nx _ _ _ h List.prefix_rfl).2)
      case lt => exact cd_o_if_lt X hd h2 (fun q => by dsimp only at h; rw [if_pos q] at h; exact jp _ _ h1 _ _ h) (fun q => by dsimp only at h; rw [if_neg q] at h; exact (nx _ _ _ h List.prefix_rfl).2)
      case ge => exact cd_o_if_ge X hd h2 (fun q => by dsimp only at h; rw [if_neg q] at h; exact jp _ _ h1 _ _ h) (fun q => by dsimp only at h; rw [if_pos q] at h; exact (nx _ _ _ h List.prefix_rfl).2)
      case gt => exact cd_o_if_gt X hd h2 (fun q => by dsimp only at h; rw [if_pos q] at h; exact jp _ _ h1 _ _ h) (fun q => by dsimp only at h; rw [if_neg q] at h; exact (nx _ _ _ h List.prefix_rfl).2)
      case le => exact cd_o_if_le X hd h2 (fun q => by dsimp only at h; rw [if_neg q] at h; exact jp _ _ h1 _ _ h) (fun q => by dsimp only at h; rw [if_pos q] at h; exact (nx _ _ _ h List.prefix_rfl).2)
    · cases h
  case if_icmp cc off =>
    simp only [cd_aux, Bool.and_eq_true, beq_iff_eq] at hax
    obtain ⟨rfl, hp⟩ := hax
    obtain ⟨o', h1, h2⟩ := cd_pcs_spec hp
    simp only [cd_step] at h
    split at h
    · cases cc
      case eq => exact cd_o_icmp_eq X hd h2 (fun q => by dsimp only at h; rw [if_pos q] at h; exact jp _ _ h1 _ _ h) (fun q => by dsimp only at h; rw [if_neg q] at h; exact (nx _ _ _ h List.prefix_rfl).2)
      case ne => exact cd_o_icmp_ne X hd h2 (fun q => by dsimp only at h; rw [if_neg q] at h; exact jp _ _ h1 _ _ h) (fun q => by dsimp only at h; rw [if_pos q] at h; exact (nx _ _ _ h List.prefix_rfl).2)
      case lt => exact cd_o_icmp_lt X hd h2 (fun q => by dsimp only at h; rw [if_pos q] at h; exact jp _ _ h1 _ _ h) (fun q => by dsimp only at h; rw [if_neg q] at h; exact (nx _ _ _ h List.prefix_rfl).2)
      case ge => exact cd_o_icmp_ge X hd h2 (fun q => by dsimp only at h; rw [if_neg q] at h; exact jp _ _ h1 _ _ h) (fun q => by dsimp only at h; rw [if_pos q] at h; exact (nx _ _ _ h List.prefix_rfl).2)
      case gt => exact cd_o_icmp_gt X hd h2 (fun q => by dsimp only at h; rw [if_pos q] at h; exact jp _ _ h1 _ _ h) (fun q => by dsimp only at h; rw [if_neg q] at h; exact (nx _ _ _ h List.prefix_rfl).2)
      case le => exact cd_o_icmp_le X hd h2 (fun q => by dsimp only at h; rw [if_neg q] at h; exact jp _ _ h1 _ _ h) (fun q => by dsimp only at h; rw [if_pos q] at h; exact (nx _ _ _ h List.prefix_rfl).2)
    · cases h
  case tableswitch d lo hi offs =>
    simp only [cd_aux, Bool.and_eq_true, decide_eq_true_eq] at hax
    obtain ⟨hhi, hl1, hl2, hsz, rfl, hd0, hsw⟩ := hax
    obtain ⟨hlen, hsw⟩ := cd_swch_spec _ _ hsw
    have hlen2 : t.length = offs.size := by rw [hlen]; simp
    have hsz := Nat.le_of_ble_eq_true hsz
    simp only [cd_step] at h
    split at h
    · rename_i x v hc
      cases hc
      rcases cd_sw_spec t lo hl1 (by omega) h with ⟨j, tt, g1, g2, g3⟩ | ⟨g1, g2⟩
      · obtain ⟨off, g4, g5⟩ := hsw j tt g1
        obtain ⟨o', g6, g7⟩ := cd_pcs_spec g5
        have hj : j < t.length := (List.getElem?_eq_some_iff.mp g1).1
        refine cd_o_tin X hd (by omega) (by omega) (off := off) ?_ g7 (jp _ _ g6 _ _ g3)
        rw [g2, show lo + (j : Int) - lo = (j : Int) by omega, Int.toNat_natCast, ← Array.getElem?_toList]
        exact g4
      · obtain ⟨o', g6, g7⟩ := cd_pcs_spec hd0
        exact cd_o_tout X hd (by omega) g7 (jp _ _ g6 _ _ g2)
    · cases h
  case getfield i =>
    simp only [cd_aux, Bool.and_eq_true, beq_iff_eq] at hax
    obtain ⟨rfl, ha, hb, hw, ht⟩ := hax
    have ha := Nat.blt_eq.mp ha
    have hb := Nat.blt_eq.mp hb
    simp only [cd_step] at h
    split at h
    · split at h
      · rename_i hk
        cases cst with
        | int v =>
          refine cd_o_get X E hk ha hb (cd_isF_in hy hw) hd ?_ (nx _ _ _ h List.prefix_rfl).2
          unfold cd_fv
          cases hft : cd_ft a b <;> rw [hft] at ht <;> first | rfl | cases ht
        | long v =>
          refine cd_o_get X E hk ha hb (cd_isF_in hy hw) hd ?_ (nx _ _ _ h List.prefix_rfl).2
          unfold cd_fv
          cases hft : cd_ft a b <;> rw [hft] at ht <;> first | rfl | cases ht
        | ref v =>
          refine cd_o_get X E hk ha hb (cd_isF_in hy hw) hd ?_ (nx _ _ _ h List.prefix_rfl).2
          unfold cd_fv
          cases hft : cd_ft a b <;> rw [hft] at ht <;> first | rfl | cases ht
        | _ => cases ht
      · cases h
    · cases h
  case putfield i =>
    simp only [cd_aux, Bool.and_eq_true, beq_iff_eq] at hax
    obtain ⟨rfl, ha, hb, hw, ht, hfin⟩ := hax
    have ha := Nat.blt_eq.mp ha
    have hb := Nat.blt_eq.mp hb
    have hfin : (cd_T a b).2.2.2 = false ∨ ((cd_mn y).name = "<init>" ∧ cd_own y = cd_cn a) := by
      cases hq : (cd_T a b).2.2.2 with
      | false => exact Or.inl rfl
      | true =>
        rw [hq] at hfin
        simp only [Bool.not_true, Bool.false_or, Bool.and_eq_true] at hfin
        have e1 := Nat.eq_of_beq_eq_true hfin.1
        have e2 := Nat.eq_of_beq_eq_true hfin.2
        have hy9 : y < 246 := by
          rcases Nat.lt_or_ge y 246 with q | q
          · exact q
          · have : y = 246 := by omega
            subst this
            exact absurd e1 (by decide)
        obtain ⟨-, -, -, -, -, -, -, q8⟩ := cd_mok_spec hy9
        have q9 := q8 e1
        exact Or.inr ⟨q9.2.1, by rw [← e2]; exact q9.2.2.2⟩
    simp only [cd_step] at h
    split at h
    · rename_i v ob st' w
      split at h
      · rename_i hk
        have key : ∀ hv : (w = 1 → v &&& 1 = v), κ (ii + 1) ls st' (cd_wI M ob b v) = some r → cd_At p l e R s m args below meth c Q G y k0 s0 pc ls (.int v :: .ref ob :: st') M := by
          intro hv h
          refine cd_o_put X E hnm (v := .int v) (M' := cd_wI M ob b v) hk ha hb (cd_isF_in hy hw) hfin hd ?_ ?_ rfl (fun j => ?_) (fun a' h' => ⟨fun k => cd_up_ne _ _ _ h' k, fun _ => rfl, fun _ => rfl⟩) (nx _ _ _ h List.prefix_rfl).2
          · cases hft : cd_ft a b <;> rw [hft] at ht <;> first | rfl | (cases ht; done) | skip
            have hw1 : w = 1 := of_decide_eq_true ht
            show Value.int (v &&& 1) = .int v
            rw [hv hw1]
          · cases hft : cd_ft a b <;> rw [hft] at ht <;> first | rfl | (cases ht; done) | skip
            have hw1 : w = 1 := of_decide_eq_true ht
            rcases cd_bo1 (hv hw1) with rfl | rfl <;> rfl
          · unfold cd_fv
            simp only [cd_I, cd_L, cd_R, cd_wI, cd_up_eq]
            by_cases hj : j = b
            · subst hj
              cases hft : cd_ft a j <;> rw [hft] at ht <;> first | (simp [cd_tv]; done) | (cases ht; done)
            · simp [hj]
        split at h
        · split at h
          · rename_i hv
            exact key (fun _ => hv) h
          · cases h
        · rename_i hw0
          exact key (fun q => absurd q hw0) h
      · cases h
    · rename_i v ob st' w
      split at h
      · rename_i hk
        refine cd_o_put X E hnm (v := .long v) (M' := cd_wL M ob b v) hk ha hb (cd_isF_in hy hw) hfin hd ?_ ?_ rfl (fun j => ?_) (fun a' h' => ⟨fun _ => rfl, fun k => cd_up_ne _ _ _ h' k, fun _ => rfl⟩) (nx _ _ _ h List.prefix_rfl).2
        · cases hft : cd_ft a b <;> rw [hft] at ht <;> first | rfl | (cases ht; done)
        · cases hft : cd_ft a b <;> rw [hft] at ht <;> first | rfl | (cases ht; done)
        · unfold cd_fv
          simp only [cd_I, cd_L, cd_R, cd_wL, cd_up_eq]
          by_cases hj : j = b
          · subst hj
            cases hft : cd_ft a j <;> rw [hft] at ht <;> first | (simp [cd_tv]; done) | (cases ht; done)
          · simp [hj]
      · cases h
    · rename_i v ob st' w
      split at h
      · rename_i hk
        refine cd_o_put X E hnm (v := .ref v) (M' := cd_wR M ob b v) hk ha hb (cd_isF_in hy hw) hfin hd ?_ ?_ rfl (fun j => ?_) (fun a' h' => ⟨fun _ => rfl, fun _ => rfl, fun k => cd_up_ne _ _ _ h' k⟩) (nx _ _ _ h List.prefix_rfl).2
        · cases hft : cd_ft a b <;> rw [hft] at ht <;> first | rfl | (cases ht; done)
        · cases hft : cd_ft a b <;> rw [hft] at ht <;> first | (cases ht; done) | (unfold cd_tv; dsimp only; split <;> rfl)
        · unfold cd_fv
          simp only [cd_I, cd_L, cd_R, cd_wR, cd_up_eq]
          by_cases hj : j = b
          · subst hj
            cases hft : cd_ft a j <;> rw [hft] at ht <;> first | (simp [cd_tv]; done) | (cases ht; done)
          · simp [hj]
      · cases h
    · cases h
  case iaload =>
    simp only [cd_aux, Bool.and_eq_true, beq_iff_eq, Bool.or_eq_true] at hax
    obtain ⟨rfl, ha⟩ := hax
    simp only [cd_step] at h
    split at h
    · split at h
      · rename_i hk
        rcases ha with rfl | rfl
        · exact cd_o_iald X E hk.1 hk.2 hd (nx _ _ _ h List.prefix_rfl).2
        · exact cd_o_sld X E hk.1 hk.2 hd (nx _ _ _ h List.prefix_rfl).2
      · cases h
    · cases h
  case arraylength =>
    simp only [cd_aux, Bool.and_eq_true, beq_iff_eq, Bool.or_eq_true] at hax
    obtain ⟨rfl, ha⟩ := hax
    simp only [cd_step] at h
    split at h
    · split at h
      · rename_i hk
        rcases ha with rfl | rfl
        · exact cd_o_alen X E hk hd (nx _ _ _ h List.prefix_rfl).2
        · exact cd_o_slen X E hk hd (nx _ _ _ h List.prefix_rfl).2
      · cases h
    · cases h
  case baload =>
    have hl : len = 1 := by simpa [cd_aux] using hax
    subst hl
    simp only [cd_step] at h
    split at h
    · split at h
      · rename_i hk
        exact cd_o_zald X E hk.1 hk.2 hd (nx _ _ _ h List.prefix_rfl).2
      · cases h
    · cases h
  case laload =>
    have hl : len = 1 := by simpa [cd_aux] using hax
    subst hl
    simp only [cd_step] at h
    split at h
    · split at h
      · rename_i hk
        exact cd_o_lald X E hk.1 hk.2 hd (nx _ _ _ h List.prefix_rfl).2
      · cases h
    · cases h
  case iastore =>
    have hl : len = 1 := by simpa [cd_aux] using hax
    subst hl
    simp only [cd_step] at h
    split at h
    · split at h
      · rename_i hk
        exact cd_o_iast X E hk.1 hk.2 hd (nx _ _ _ h List.prefix_rfl).2
      · cases h
    · cases h
  case lastore =>
    have hl : len = 1 := by simpa [cd_aux] using hax
    subst hl
    simp only [cd_step] at h
    split at h
    · split at h
      · rename_i hk
        exact cd_o_last X E hk.1 hk.2 hd (nx _ _ _ h List.prefix_rfl).2
      · cases h
    · cases h
  case bastore =>
    have hl : len = 1 := by simpa [cd_aux] using hax
    subst hl
    simp only [cd_step] at h
    split at h
    · split at h
      · rename_i hk
        split at h
        · rename_i hv
          exact cd_o_zast X E hk.1 hk.2 hv hd (nx _ _ _ h List.prefix_rfl).2
        · cases h
      · cases h
    · cases h
  case aaload =>
    simp only [cd_aux, Bool.and_eq_true, beq_iff_eq, Bool.or_eq_true] at hax
    obtain ⟨rfl, ha⟩ := hax
    simp only [cd_step] at h
    split at h
    · split at h
      · rename_i hk
        exact cd_o_aald X E ha hk.1 hk.2 hd (nx _ _ _ h List.prefix_rfl).2
      · cases h
    · cases h
  case aastore =>
    simp only [cd_aux, Bool.and_eq_true, beq_iff_eq, Bool.or_eq_true] at hax
    obtain ⟨rfl, ha⟩ := hax
    simp only [cd_step] at h
    split at h
    · split at h
      · rename_i hk
        exact cd_o_aast X E ha hk.1 hk.2.1 hk.2.2 hd (nx _ _ _ h List.prefix_rfl).2
      · cases h
    · cases h
  case new i =>
    simp only [cd_aux, Bool.and_eq_true, beq_iff_eq] at hax
    obtain ⟨rfl, ha, rfl, hw⟩ := hax
    have ha := Nat.blt_eq.mp ha
    simp only [cd_step] at h
    split at h
    · rename_i h9
      have g := nx _ _ _ h (List.prefix_append _ _)
      have g1 := g.1.length_le
      have g2 := cd_sl_pre g.1
      exact cd_o_new X E ha (cd_isC_in hy hw) hd h9 hk0 hs0 (by omega) (by omega) g.2
    · cases h
  case newarray ty =>
    simp only [cd_aux, Bool.and_eq_true, beq_iff_eq, Bool.or_eq_true] at hax
    obtain ⟨rfl, ha⟩ := hax
    simp only [cd_step] at h
    split at h
    · split at h
      · cases h
      · rename_i h9
        have g := nx _ _ _ h (List.prefix_append _ _)
        have g1 := g.1.length_le
        have g2 := cd_sl_pre g.1
        have ha : (ty = .int ∧ a = 20) ∨ (ty = .long ∧ a = 21) ∨ (ty = .boolean ∧ a = 22) := by
          cases ty <;> rcases ha with ⟨q, e⟩ | ⟨q, e⟩ | ⟨q, e⟩ <;> first | exact absurd q (by decide) | simp [e]
        exact cd_o_newa X E ha hd (fun q => h9 (Or.inl q)) (fun q => h9 (Or.inr (Or.inl q))) (Classical.not_not.mp fun q => h9 (Or.inr (Or.inr q))) hk0 hs0 (by omega) (by omega) g.2
    · cases h
  case anewarray i =>
    simp only [cd_aux, Bool.and_eq_true, beq_iff_eq, Bool.or_eq_true] at hax
    obtain ⟨rfl, ha⟩ := hax
    simp only [cd_step] at h
    split at h
    · split at h
      · cases h
      · rename_i h9
        have g := nx _ _ _ h (List.prefix_append _ _)
        have g1 := g.1.length_le
        have g2 := cd_sl_pre g.1
        rcases ha with ⟨e, hw⟩ | ⟨e, hw⟩
        · exact cd_o_anew X E (Or.inl ⟨rfl, e⟩) (cd_isC_in hy hw) hd (fun q => h9 (Or.inl q)) (fun q => h9 (Or.inr (Or.inl q))) (Classical.not_not.mp fun q => h9 (Or.inr (Or.inr q))) hk0 hs0 (by omega) (by omega) g.2
        · exact cd_o_anew X E (Or.inr ⟨rfl, e⟩) (cd_isC_in hy hw) hd (fun q => h9 (Or.inl q)) (fun q => h9 (Or.inr (Or.inl q))) (Classical.not_not.mp fun q => h9 (Or.inr (Or.inr q))) hk0 hs0 (by omega) (by omega) g.2
    · cases h

  case invokespecial i =>
    by_cases h9 : a = 9001
    · subst h9
      simp only [cd_aux, Bool.and_eq_true, beq_iff_eq] at hax
      obtain ⟨rfl, hw, q1, q2⟩ := hax
      simp only [cd_step] at h
      split at h
      · rename_i ob st'
        cases hb : Nat.ble (cd_cat st') 8 with
        | false => rw [hb] at h; cases h
        | true =>
          rw [hb] at h
          dsimp only [cond] at h
          have hcat : ((st'.map (cd_tv G)).map fun v => v.category).sum ≤ 8 := by rw [cd_cat_sum]; exact Nat.le_of_ble_eq_true hb
          split at h
          · rename_i hob
            exact cd_o_objInit X (Nat.le_trans (Nat.le_of_ble_eq_true q1) hf) (Nat.le_trans (Nat.le_of_ble_eq_true q2) hlo) hd (cd_isM_in hy hw) hob hcat (nx _ _ _ h List.prefix_rfl).2
          · cases h
      · cases h
    · obtain ⟨rfl, hw, hc, hin, hrt, hni, hb12, hcls⟩ := cd_aux_sp hy h9 hax
      have hst : ∃ ob rest, st = .ref ob :: rest := by
        simp only [cd_step] at h
        split at h
        · exact ⟨_, _, rfl⟩
        · cases h
      obtain ⟨ob, rest, rfl⟩ := hst
      rw [cd_step_sp h9] at h
      cases hb : Nat.ble (cd_cat rest) 8 with
      | false => rw [hb] at h; cases h
      | true =>
        rw [hb] at h
        dsimp only [cond] at h
        have hcat : ((rest.map (cd_tv G)).map fun v => v.category).sum ≤ 8 := by rw [cd_cat_sum]; exact Nat.le_of_ble_eq_true hb
        split at h
        · rename_i hk
          obtain ⟨m', g1, g2⟩ := cd_cv_s.mp h
          have g := cl a _ _ (cd_callee_spec hc).1 g1
          have g' := nx _ _ _ g2 g.2
          have e1 := g'.1.length_le
          have e2 := cd_sl_pre g'.1
          exact cd_o_callI X E hf hlo hd hc hw hin hrt hni hb12 hk hcat g.1 hk0 hs0 g.2.length_le (cd_sl_pre g.2) (by show m'.1.length - k0 ≤ _; omega) (by show cd_sl m'.1 - s0 ≤ _; omega) g'.2
        · cases h
  case invokestatic i =>
    by_cases h4 : a = 9004
    · subst h4
      simp only [cd_aux, Bool.and_eq_true, beq_iff_eq] at hax
      obtain ⟨rfl, hw, q1, q2⟩ := hax
      simp only [cd_step] at h
      split at h
      · rename_i x st'
        cases hb : Nat.ble (cd_cat st') 8 with
        | false => rw [hb] at h; cases h
        | true =>
          rw [hb] at h
          have hcat : ((st'.map (cd_tv G)).map fun v => v.category).sum ≤ 8 := by rw [cd_cat_sum]; exact Nat.le_of_ble_eq_true hb
          have g := nx _ _ _ h List.prefix_rfl
          have e1 := g.1.length_le
          have e2 := cd_sl_pre g.1
          exact cd_o_mabs X (Nat.le_trans (Nat.le_of_ble_eq_true q1) hf) (Nat.le_trans (Nat.le_of_ble_eq_true q2) hlo) hd (cd_isM_in hy hw) hcat (by omega) (by omega) g.2
      · cases h
    by_cases h5 : a = 9005
    · subst h5
      simp only [cd_aux, Bool.and_eq_true, beq_iff_eq] at hax
      obtain ⟨rfl, hw, q1, q2⟩ := hax
      simp only [cd_step] at h
      split at h
      · rename_i z x st'
        cases hb : Nat.ble (cd_cat st') 8 with
        | false => rw [hb] at h; cases h
        | true =>
          rw [hb] at h
          have hcat : ((st'.map (cd_tv G)).map fun v => v.category).sum ≤ 8 := by rw [cd_cat_sum]; exact Nat.le_of_ble_eq_true hb
          have g := nx _ _ _ h List.prefix_rfl
          have e1 := g.1.length_le
          have e2 := cd_sl_pre g.1
          exact cd_o_mmax X (Nat.le_trans (Nat.le_of_ble_eq_true q1) hf) (Nat.le_trans (Nat.le_of_ble_eq_true q2) hlo) hd (cd_isM_in hy hw) hcat (by omega) (by omega) g.2
      · cases h
    by_cases h6 : a = 9006
    · subst h6
      simp only [cd_aux, Bool.and_eq_true, beq_iff_eq] at hax
      obtain ⟨rfl, hw, q1, q2⟩ := hax
      simp only [cd_step] at h
      split at h
      · rename_i z x st'
        cases hb : Nat.ble (cd_cat st') 8 with
        | false => rw [hb] at h; cases h
        | true =>
          rw [hb] at h
          have hcat : ((st'.map (cd_tv G)).map fun v => v.category).sum ≤ 8 := by rw [cd_cat_sum]; exact Nat.le_of_ble_eq_true hb
          have g := nx _ _ _ h List.prefix_rfl
          have e1 := g.1.length_le
          have e2 := cd_sl_pre g.1
          exact cd_o_mmin X (Nat.le_trans (Nat.le_of_ble_eq_true q1) hf) (Nat.le_trans (Nat.le_of_ble_eq_true q2) hlo) hd (cd_isM_in hy hw) hcat (by omega) (by omega) g.2
      · cases h
    by_cases h9 : a = 9000
    · subst h9
      simp only [cd_aux, Bool.and_eq_true, beq_iff_eq] at hax
      obtain ⟨rfl, hw, q1, q2⟩ := hax
      simp only [cd_step] at h
      split at h
      · rename_i n dp b' sp a' st'
        cases hb : Nat.ble (cd_cat st') 8 with
        | false => rw [hb] at h; cases h
        | true =>
          rw [hb] at h
          dsimp only [cond] at h
          have hcat : ((st'.map (cd_tv G)).map fun v => v.category).sum ≤ 8 := by rw [cd_cat_sum]; exact Nat.le_of_ble_eq_true hb
          split at h
          · rename_i hk
            exact cd_o_copy X E (Nat.le_trans (Nat.le_of_ble_eq_true q1) hf) (Nat.le_trans (Nat.le_of_ble_eq_true q2) hlo) hd (cd_isM_in hy hw) hk.1 hk.2.1 hk.2.2.1 hk.2.2.2.1 hk.2.2.2.2.1 hk.2.2.2.2.2.1 hk.2.2.2.2.2.2 hcat (nx _ _ _ h List.prefix_rfl).2
          · cases h
      · cases h
    · obtain ⟨rfl, hw, hc, hst⟩ := cd_aux_st hy h9 h4 h5 h6 hax
      rw [cd_step_st h9 h4 h5 h6] at h
      cases hb : Nat.ble b st.length && Nat.ble (cd_cat (st.drop b)) 8 with
      | false => rw [hb] at h; cases h
      | true =>
        rw [hb] at h
        dsimp only [cond] at h
        rw [Bool.and_eq_true] at hb
        have hcat : (((st.drop b).map (cd_tv G)).map fun v => v.category).sum ≤ 8 := by rw [cd_cat_sum]; exact Nat.le_of_ble_eq_true hb.2
        have hln : (st.take b).reverse.length = b := by
          have := Nat.le_of_ble_eq_true hb.1
          simp
          omega
        have fin : ∀ r1, C a (st.take b).reverse M = some r1 → κ (ii + 1) ls (r1.1.toList ++ st.drop b) r1.2 = some r → cd_At p l e R s m args below meth c Q G y k0 s0 pc ls st M := by
          intro r1 g1 g2
          have g := cl a _ _ (cd_callee_spec hc).1 g1
          have g' := nx _ _ _ g2 g.2
          have e1 := g'.1.length_le
          have e2 := cd_sl_pre g'.1
          have e3 : st = (st.take b).reverse.reverse ++ st.drop b := by rw [List.reverse_reverse, List.take_append_drop]
          rw [e3]
          exact cd_o_callS X E hf hlo hd hc hw hst hln hcat g.1 hk0 hs0 g.2.length_le (cd_sl_pre g.2) (by omega) (by omega) g'.2
        split at h
        · obtain ⟨v, m', g1, g2⟩ := cd_ci_s.mp h
          exact fin _ g1 g2
        · obtain ⟨v, m', g1, g2⟩ := cd_cl_s.mp h
          exact fin _ g1 g2
        · obtain ⟨m', g1, g2⟩ := cd_cv_s.mp h
          exact fin _ g1 g2
        · cases h
  case invokevirtual i =>
    by_cases h9 : a = 9002
    · subst h9
      simp only [cd_aux, Bool.and_eq_true, beq_iff_eq] at hax
      obtain ⟨rfl, hw, q1, q2⟩ := hax
      simp only [cd_step] at h
      split at h
      · rename_i ob st'
        cases hb : Nat.ble (cd_cat st') 8 with
        | false => rw [hb] at h; cases h
        | true =>
          rw [hb] at h
          dsimp only [cond] at h
          split at h
          · rename_i hk
            exact sl i ob pc st' hd (cd_isM_in hy hw) (Nat.le_trans (Nat.le_of_ble_eq_true q1) hf) (Nat.le_trans (Nat.le_of_ble_eq_true q2) hlo) hk.1 hk.2 (Nat.le_of_ble_eq_true hb) (nx _ _ _ h List.prefix_rfl).2
          · cases h
      · cases h
    · by_cases h8 : a = 9003
      · subst h8
        simp only [cd_aux, Bool.and_eq_true, beq_iff_eq] at hax
        obtain ⟨rfl, hw, q1, q2⟩ := hax
        simp only [cd_step] at h
        split at h
        · rename_i j ob st'
          cases hb : Nat.ble (cd_cat st') 8 with
          | false => rw [hb] at h; cases h
          | true =>
            rw [hb] at h
            dsimp only [cond] at h
            split at h
            · rename_i hk
              exact sc i ob j pc st' hd (cd_isM_in hy hw) (Nat.le_trans (Nat.le_of_ble_eq_true q1) hf) (Nat.le_trans (Nat.le_of_ble_eq_true q2) hlo) hk.1 hk.2.1 hk.2.2 (Nat.le_of_ble_eq_true hb) (nx _ _ _ h List.prefix_rfl).2
            · cases h
        · cases h
      · obtain ⟨rfl, hw, hc, hin, hse, c12, tr, rfl, hc12, hcls⟩ := cd_aux_vi hy h9 h8 hax
        obtain ⟨ob, rest, hst⟩ := cd_step_vi0 h9 h8 h
        rw [cd_step_vi h9 h8 hst] at h
        cases hb : Nat.ble (cd_cat rest) 8 with
        | false => rw [hb] at h; cases h
        | true =>
          rw [hb] at h
          dsimp only [cond] at h
          have hcat : ((rest.map (cd_tv G)).map fun v => v.category).sum ≤ 8 := by rw [cd_cat_sum]; exact Nat.le_of_ble_eq_true hb
          have hbl : b < st.length := by
            have h1 : (st.drop b).length = st.length - b := List.length_drop
            rw [hst, List.length_cons] at h1
            omega
          have hln : (st.take b).reverse.length = b := by
            simp
            omega
          split at h
          · rename_i hk
            have fin : ∀ r1, C a (.ref ob :: (st.take b).reverse) M = some r1 → κ (ii + 1) ls (r1.1.toList ++ rest) r1.2 = some r → cd_At p l e R s m args below meth c Q G y k0 s0 pc ls st M := by
              intro r1 g1 g2
              have g := cl a _ _ (cd_callee_spec hc).1 g1
              have g' := nx _ _ _ g2 g.2
              have e1 := g'.1.length_le
              have e2 := cd_sl_pre g'.1
              have e3 : st = (st.take b).reverse.reverse ++ .ref ob :: rest := by rw [← hst, List.reverse_reverse, List.take_append_drop]
              rw [e3]
              exact cd_o_callV X E hf hlo hd hc hw hin hse hc12 hcls hk hln hcat g.1 hk0 hs0 g.2.length_le (cd_sl_pre g.2) (by omega) (by omega) g'.2
            split at h
            · obtain ⟨v, m', g1, g2⟩ := cd_ci_s.mp h
              exact fin _ g1 g2
            · obtain ⟨v, m', g1, g2⟩ := cd_cl_s.mp h
              exact fin _ g1 g2
            · obtain ⟨m', g1, g2⟩ := cd_cv_s.mp h
              exact fin _ g1 g2
            · cases h
          · cases h
  case ireturn =>
    simp only [cd_aux, Bool.and_eq_true, beq_iff_eq, Bool.or_eq_true, decide_eq_true_eq] at hax
    obtain ⟨rfl, hr⟩ := hax
    simp only [cd_step] at h
    split at h
    · split at h
      · rename_i ha1
        split at h
        · rename_i hv
          cases h
          have hr2 : cd_rt y = some .boolean := by
            rcases hr with hr | hr
            · exact absurd (ha1.symm.trans hr.1) (by decide)
            · exact hr.2
          exact hret pc _ hd (Or.inr ⟨hr2, hv⟩) rfl rfl
        · cases h
      · rename_i ha1
        cases h
        have hr2 : cd_rt y = some .int := by
          rcases hr with hr | hr
          · exact hr.2
          · exact absurd hr.1 ha1
        exact hret pc _ hd (Or.inl hr2) rfl rfl
    · cases h
  case lreturn =>
    simp only [cd_aux, Bool.and_eq_true, beq_iff_eq, decide_eq_true_eq] at hax
    obtain ⟨rfl, hr⟩ := hax
    simp only [cd_step] at h
    split at h
    · cases h
      exact hret pc _ hd hr rfl rfl
    · cases h
  case return_ =>
    simp only [cd_aux, Bool.and_eq_true, beq_iff_eq, decide_eq_true_eq] at hax
    obtain ⟨rfl, hr⟩ := hax
    simp only [cd_step] at h
    split at h
    · cases h
      exact hret pc _ hd hr rfl rfl
    · cases h
  all_goals (simp only [cd_step] at h; cases h)
end CDS
