/-! ===== runs, calls and contracts ===== -/
theorem cd_run_some {n y ii : Nat} {ls st : List Value} {M : cd_M} {r : cd_Ret} (h : cd_run n y ii ls st M = some r) : ∃ o, (cd_body y)[ii]? = some o := by
  cases n with
  | zero => cases h
  | succ n =>
    unfold cd_run at h
    cases ho : (cd_body y)[ii]? with
    | none => rw [ho] at h; cases h
    | some o => exact ⟨o, rfl⟩
theorem cd_chkL_at {y : Nat} {cc : ByteArray} : ∀ (B : List cd_O) (i j : Nat) (o : cd_O), cd_chkL y cc i B = true → B[j]? = some o → cd_chk1 y cc (i + j) o (B.drop (j + 1)) = true := by
  intro B
  induction B with
  | nil => intro i j o _ h; simp at h
  | cons a B ih =>
    intro i j o h hj
    unfold cd_chkL at h
    rw [Bool.and_eq_true] at h
    cases j with
    | zero => simp at hj; subst hj; simpa using h.1
    | succ j =>
      have := ih (i + 1) j o h.2 (by simpa using hj)
      rw [show i + 1 + j = i + (j + 1) by omega] at this
      simpa using this
theorem cd_chk_spec {y ii : Nat} {o : cd_O} (hy : y < 247) (ho : (cd_body y)[ii]? = some o) (hn : o.1 ≠ .nop) : ∃ len, decode (cd_cc y) o.2.1 = .ok (o.1, len) ∧ cd_aux y ii o len = true ∧ ∀ o', (cd_body y)[ii + 1]? = some o' → o'.2.1 = o.2.1 + len := by
  have h := cd_chk_all hy
  unfold cd_chk at h
  rw [Bool.and_eq_true] at h
  have h2 := h.2
  have h3 : cd_chkL y (cd_cc y) 0 (cd_body y) = true := by
    cases hc : cd_cc y with
    | mk b => rw [hc] at h2; exact h2
  have h4 := cd_chkL_at _ 0 ii o h3 ho
  rw [Nat.zero_add] at h4
  unfold cd_chk1 at h4
  split at h4
  · rename_i he
    exact absurd he hn
  · split at h4
    · rename_i j len hdec
      simp only [Bool.and_eq_true, decide_eq_true_eq] at h4
      obtain ⟨rfl, h5, h6⟩ := h4
      refine ⟨len, hdec, h6, fun o' ho' => ?_⟩
      have h7 : ((cd_body y).drop (ii + 1))[0]? = some o' := by rw [List.getElem?_drop]; simpa using ho'
      cases hd : (cd_body y).drop (ii + 1) with
      | nil => rw [hd] at h7; simp at h7
      | cons a r =>
        rw [hd] at h7 h5
        simp at h7
        subst h7
        simpa using h5
    · cases h4
theorem cd_chk_0pc {y : Nat} {o : cd_O} (hy : y < 247) (ho : (cd_body y)[0]? = some o) : o.2.1 = 0 := by
  have h := cd_chk_all hy
  unfold cd_chk at h
  rw [Bool.and_eq_true] at h
  have h1 := h.1
  cases hb : cd_body y with
  | nil => rw [hb] at ho; simp at ho
  | cons a r =>
    rw [hb] at h1 ho
    simp at ho
    subst ho
    simpa using h1
theorem cd_lg_len (G : cd_G) : ∀ (a : List Value), a.all cd_nz = true → (lg_sl (a.map (cd_tv G))).length = (cd_args a).length := by
  intro a
  induction a with
  | nil => intro _; rfl
  | cons v r ih =>
    intro h
    simp only [List.all_cons, Bool.and_eq_true] at h
    have ih := ih h.2
    have e : lg_sl ((v :: r).map (cd_tv G)) = (if (cd_tv G v).category = 2 then [.val (cd_tv G v), .second] else [.val (cd_tv G v)]) ++ lg_sl (r.map (cd_tv G)) := by simp [lg_sl]
    rw [e, List.length_append, ih, cd_tv_cat]
    cases v with
    | int x => simp [cd_args, Value.category]; omega
    | long x => simp [cd_args, Value.category]; omega
    | ref x => simp [cd_args, Value.category]; omega
    | _ => cases h.1
theorem cd_args_mem (G : cd_G) : ∀ (a : List Value) (i j : Nat) (v : Value), a.all cd_nz = true → (cd_args a)[j]? = some v → cd_nz v = true → (i + j, cd_tv G v) ∈ lv_args i (a.map (cd_tv G)) := by
  intro a
  induction a with
  | nil => intro i j v _ h; simp [cd_args] at h
  | cons w r ih =>
    intro i j v h hj hv
    simp only [List.all_cons, Bool.and_eq_true] at h
    rw [List.map_cons]
    unfold lv_args
    rw [cd_tv_cat]
    have one : ∀ (hc : w.category ≠ 2), cd_args (w :: r) = w :: cd_args r → (i + j, cd_tv G v) ∈ (i, cd_tv G w) :: lv_args (if w.category = 2 then i + 2 else i + 1) (r.map (cd_tv G)) := by
      intro hc e
      rw [e] at hj
      rw [if_neg hc]
      cases j with
      | zero => simp at hj; subst hj; exact List.mem_cons_self
      | succ j =>
        have := ih (i + 1) j v h.2 (by simpa using hj) hv
        rw [show i + 1 + j = i + (j + 1) by omega] at this
        exact List.mem_cons_of_mem _ this
    cases w with
    | int x => exact one (by simp [Value.category]) rfl
    | ref x => exact one (by simp [Value.category]) rfl
    | long x =>
      have e : cd_args (.long x :: r) = .long x :: .null :: cd_args r := rfl
      rw [e] at hj
      rw [if_pos (show (Value.long x).category = 2 from rfl)]
      match j, hj with
      | 0, hj => simp at hj; subst hj; exact List.mem_cons_self
      | 1, hj => simp at hj; subst hj; cases hv
      | j + 2, hj =>
        have := ih (i + 2) j v h.2 (by simpa using hj) hv
        rw [show i + 2 + j = i + (j + 2) by omega] at this
        exact List.mem_cons_of_mem _ this
    | _ => cases h.1
theorem cd_ent_Ls {G : cd_G} {n : Nat} {a : List Value} {lr : Array Slot} (ha : a.all cd_nz = true) (h : lv_has lr n (lv_args 0 (a.map (cd_tv G)))) : cd_Ls G n (cd_pad n (cd_args a)) lr := by
  refine cd_Ls.sub h fun j v h1 h2 => ?_
  unfold cd_pad at h1
  by_cases hj : j < (cd_args a).length
  · rw [List.getElem?_append_left hj] at h1
    have := cd_args_mem G a 0 j v ha h1 h2
    rwa [Nat.zero_add] at this
  · rw [List.getElem?_append_right (by omega), List.getElem?_replicate] at h1
    split at h1
    · rw [← Option.some.inj h1] at h2; cases h2
    · cases h1
/-- what the run of a method from a place gives, in any setting -/
def cd_Sim (l : Launch) (G : cd_G) (n y : Nat) : Prop := ∀ (ii : Nat) (ls st : List Value) (M : cd_M) (r : cd_Ret) (o : cd_O), cd_run n y ii ls st M = some r → (cd_body y)[ii]? = some o →
  ∀ (p : Program) (e : Env) (R : Room) (s : State) (m : MethodId) (args : Array Value) (below : List Frame) (meth : Method) (c : Code) (Q : State → Prop) (k0 s0 : Nat), cd_Cx p s m args c y → ((cd_mn y).name = "<init>" → meth.name = "<init>") → cd_Ev G s s.heap → cd_fr y ≤ R.frames → cd_lo y ≤ R.locals → k0 ≤ M.1.length → s0 ≤ cd_sl M.1 → r.2.1.length - k0 ≤ R.cells → cd_sl r.2.1 - s0 ≤ R.slots →
    (∀ (pc : Nat) (ls' : List Value), decode (cd_cc y) pc = .ok (cd_ri r.1, 1) → cd_rok r.1 (cd_rt y) → cd_At p l e R s m args below meth c Q G y k0 s0 pc ls' r.1.toList r.2) → cd_At p l e R s m args below meth c Q G y k0 s0 o.2.1 ls st M
theorem cd_met_of {l : Launch} {G : cd_G} {n y : Nat} (hy : y < 246) (hS : cd_Sim l G n y) {a : List Value} {M : cd_M} {r : cd_Ret} (h : cd_call (cd_run n) y a M = some r) : cd_Met l G y a M r := by
  unfold cd_call at h
  cases hb : Nat.ble (cd_args a).length (cd_mx y) && a.all cd_nz with
  | false => rw [hb] at h; cases h
  | true =>
    rw [hb] at h
    dsimp only [cond] at h
    rw [Bool.and_eq_true] at hb
    obtain ⟨-, -, -, -, hplain, -⟩ := cd_mok_spec hy
    refine Met.ofW (cc := cd_cc y) (maxL := cd_mx y) (ret := cd_rt y) hplain rfl ?_
    intro p e s m args below meth c s₁ B hml hv
    obtain ⟨rfl, hP, hE⟩ := hv
    have X : cd_Cx p s m (a.map (cd_tv G)).toArray c y := ⟨B.exec, B.bytes, hml, findClass_of_methodNamed B.named, fun w hw => atoms_spec (ws := cd_ws y) B.pre w (List.mem_cons_of_mem _ hw)⟩
    have hnm : meth.name = (cd_mn y).name := (name_of_methodNamed B.named B.method).1
    have hl := lv_entry (a.map (cd_tv G)) (n := cd_mx y) (by rw [cd_lg_len G a hb.2]; exact Nat.le_of_ble_eq_true hb.1)
    rw [lg_entry_eq]
    generalize (lg_sl (a.map (cd_tv G)) ++ List.replicate (cd_mx y - (lg_sl (a.map (cd_tv G))).length) Slot.unset).toArray = lr at hl ⊢
    have hL : cd_Ls G (cd_mx y) (cd_ent y a) lr := cd_ent_Ls hb.2 hl
    obtain ⟨o, ho⟩ := cd_run_some h
    have key := hS 0 (cd_ent y a) [] M r o h ho p e (headSpec (cd_ws y) (cd_rm y (r.2.1.length - M.1.length) (cd_sl r.2.1 - cd_sl M.1))).room s m (a.map (cd_tv G)).toArray below meth c (MQ below (cd_Qc G r) (a.map (cd_tv G)).toArray s (r.2.1.length - M.1.length) (cd_sl r.2.1 - cd_sl M.1) (cd_A G)) M.1.length (cd_sl M.1) X (fun q => hnm.trans q) hE (Nat.le_refl _) (Nat.le_refl _) (Nat.le_refl _) (Nat.le_refl _) (Nat.le_refl _) (Nat.le_refl _) (fun pc ls' hd hrok H locs lr' hP' hS' hl' => by
      obtain ⟨rv, M'⟩ := r
      cases rv with
      | none => exact W.vret X.1 X.2.1 (B.returns.trans hrok) (fun t ht hW => ⟨rfl, by rw [ht]; exact hP', hS'.F ht⟩) hS'.2.2 hd B.notSynchronized
      | some v =>
        cases v with
        | int v =>
          rcases hrok with hrok | ⟨hrok, hv⟩
          · exact W.iret (v := v) X.1 X.2.1 (B.returns.trans hrok) (fun t ht hW => ⟨rfl, by rw [ht]; exact hP', hS'.F ht⟩) hS'.2.2 hd B.notSynchronized
          · exact W.zret (v := v) X.1 X.2.1 (B.returns.trans hrok) (by show Value.int (v &&& 1) = _; rw [hv]) (fun t ht hW => ⟨rfl, by rw [ht]; exact hP', hS'.F ht⟩) hS'.2.2 hd B.notSynchronized
        | long v => exact W.lret (v := v) X.1 X.2.1 (B.returns.trans hrok) (fun t ht hW => ⟨rfl, by rw [ht]; exact hP', hS'.F ht⟩) hS'.2.2 hd B.notSynchronized
        | _ => cases hrok)
    have h9 := key s.heap [] lr hP va_S.rf hL
    rw [Nat.sub_self, Nat.sub_self, cd_chk_0pc (by omega) ho] at h9
    exact h9
section CDR
variable {p : Program} {l : Launch} {e : Env} {R : Room} {s : State} {m : MethodId} {args : Array Value} {below : List Frame} {meth : Method} {c : Code} {Q : State → Prop} {G : cd_G} {y k0 s0 : Nat} {ls : List Value} {M : cd_M}
theorem cd_Ev.se (E : cd_Ev G s s.heap) : cd_SE G s s.heap := ⟨E.2.2.2.2.2.1, E.2.2.2.2.2.2.2.2.2.2.1, E.2.2.2.2.2.2.2.2.2.2.2⟩
theorem cd_len_str {i : Nat} (hi : i < 15) : cd_len.getD i 0 = (cd_str (1000 + i)).length ∧ cd_strs.getD i [] = cd_str (1000 + i) := by
  unfold cd_len cd_str
  rw [Nat.add_sub_cancel_left]
  refine ⟨?_, rfl⟩
  rw [List.getD_eq_getElem?_getD, List.getD_eq_getElem?_getD, List.getElem?_map]
  have : i < cd_strs.length := hi
  rw [List.getElem?_eq_getElem this]
  rfl
theorem cd_o_strlen (X : cd_Cx p s m args c y) (E : cd_Ev G s s.heap) {i a pc : Nat} {st : List Value} (hc : M.1.length - k0 ≤ R.cells) (hs : cd_sl M.1 - s0 ≤ R.slots) (hd : decode (cd_cc y) pc = .ok (.invokevirtual i, 3)) (hw : Cond.methodLink (cd_own y) i ⟨"java/lang/String", "length", "()I"⟩ ∈ cd_W) (hf : 2 ≤ R.frames) (hlo : 60 ≤ R.locals) (h1 : 1000 ≤ a) (h2 : a < 1015) (hcat : cd_cat st ≤ 8) (kk : cd_At p l e R s m args below meth c Q G y k0 s0 (pc + 3) ls (.int (Int32.ofNat (cd_str a).length) :: st) M) : cd_At p l e R s m args below meth c Q G y k0 s0 pc ls (.ref a :: st) M := fun H locs lr hP hS hl => by
  obtain ⟨k, rfl⟩ : ∃ k, a = 1000 + k := ⟨a - 1000, by omega⟩
  rw [List.map_cons, cd_tv_ref (by omega)]
  refine cd_runV (As := []) (rest := st.map (cd_tv G)) (k := 0) (G := G) X hS E.se (cd_t_slen l G k (by omega)) cd_w_slen_c cd_w_slen_i cd_w_slen_s cd_w_slen_n hw (by decide +kernel) rfl ⟨hf, by omega⟩ (vk_recv (adK := fun i => cd_ad G (1000 + i)) (i := k) E.2.2.2.2.2.1 (by omega) hS) hl.1 (by rw [cd_cat_sum]; exact hcat) hd hc hs ?_
  rintro v rfl
  rw [(cd_len_str (by omega)).1]
  exact kk H locs lr hP hS hl
theorem cd_o_strat (X : cd_Cx p s m args c y) (E : cd_Ev G s s.heap) {i a pc : Nat} {j : Int32} {st : List Value} (hc : M.1.length - k0 ≤ R.cells) (hs : cd_sl M.1 - s0 ≤ R.slots) (hd : decode (cd_cc y) pc = .ok (.invokevirtual i, 3)) (hw : Cond.methodLink (cd_own y) i ⟨"java/lang/String", "charAt", "(I)C"⟩ ∈ cd_W) (hf : 4 ≤ R.frames) (hlo : 120 ≤ R.locals) (h1 : 1000 ≤ a) (h2 : a < 1015) (hj : cd_in j (cd_str a).length = true) (hcat : cd_cat st ≤ 8) (kk : cd_At p l e R s m args below meth c Q G y k0 s0 (pc + 3) ls (.int (Int32.ofNat ((cd_str a).getD j.toNatClampNeg 0)) :: st) M) : cd_At p l e R s m args below meth c Q G y k0 s0 pc ls (.int j :: .ref a :: st) M := fun H locs lr hP hS hl => by
  obtain ⟨k, rfl⟩ : ∃ k, a = 1000 + k := ⟨a - 1000, by omega⟩
  have e := cd_len_str (i := k) (by omega)
  rw [← e.1] at hj
  rw [List.map_cons, List.map_cons, cd_tv_ref (by omega)]
  refine cd_runV (As := [.int j]) (rest := st.map (cd_tv G)) (k := 1) (G := G) X hS E.se (cd_t_sca l G k (by omega) j hj) cd_w_sca_c cd_w_sca_i cd_w_sca_s cd_w_sca_n hw (by decide +kernel) rfl ⟨hf, by omega⟩ (vk_recv (adK := fun i => cd_ad G (1000 + i)) (i := k) E.2.2.2.2.2.1 (by omega) hS) hl.1 (by rw [cd_cat_sum]; exact hcat) hd hc hs ?_
  rintro v rfl
  rw [e.2]
  exact kk H locs lr hP hS hl
end CDR
theorem cd_sim (l : Launch) (G : cd_G) : ∀ (n y : Nat), y < 247 → cd_Sim l G n y := by
  intro n
  induction n with
  | zero => intro y _ ii ls st M r o h; cases h
  | succ n ih =>
    intro y hy ii ls st M r o h ho p e R s m args below meth c Q k0 s0 X hnm E hf hlo hk0 hs0 hR1 hR2 hret
    unfold cd_run at h
    rw [ho] at h
    dsimp only at h
    have hnop : o.1 ≠ .nop := by
      intro hn
      obtain ⟨i, pc, cst, a, b, t⟩ := o
      dsimp only at hn
      subst hn
      simp only [cd_step] at h
      cases h
    obtain ⟨len, hd, hax, hnext⟩ := cd_chk_spec hy ho hnop
    have hgM : M.1 <+: r.2.1 := cd_grow (n + 1) y ii ls st M r (by unfold cd_run; rw [ho]; exact h)
    have hc9 : M.1.length - k0 ≤ R.cells := by have := hgM.length_le; omega
    have hs9 : cd_sl M.1 - s0 ≤ R.slots := by have := cd_sl_pre hgM; omega
    refine cd_one hy X hnm E hf hlo hk0 hs0 hR1 hR2 hd hax ?_ ?_ ?_ (fun i a pc st' q1 q2 q3 q4 q5 q6 q7 q8 => cd_o_strlen X E hc9 hs9 q1 q2 q3 q4 q5 q6 q7 q8) (fun i a j pc st' q1 q2 q3 q4 q5 q6 q7 q8 q9 => cd_o_strat X E hc9 hs9 q1 q2 q3 q4 q5 q6 q7 q8 q9) ?_ h
    · intro ls' st' M' h' hpre
      have hg := cd_grow _ _ _ _ _ _ _ h'
      obtain ⟨o', ho'⟩ := cd_run_some h'
      refine ⟨hg, ?_⟩
      rw [← hnext o' ho']
      exact ih y hy (ii + 1) ls' st' M' r o' h' ho' p e R s m args below meth c Q k0 s0 X hnm E hf hlo (Nat.le_trans hk0 hpre.length_le) (Nat.le_trans hs0 (cd_sl_pre hpre)) hR1 hR2 hret
    · intro t o' ho' ls' st' h'
      exact ih y hy t ls' st' M r o' h' ho' p e R s m args below meth c Q k0 s0 X hnm E hf hlo hk0 hs0 hR1 hR2 hret
    · intro a as r1 ha h'
      refine ⟨cd_met_of ha (ih a (by omega)) h', ?_⟩
      unfold cd_call at h'
      cases hb : Nat.ble (cd_args as).length (cd_mx a) && as.all cd_nz with
      | false => rw [hb] at h'; cases h'
      | true => rw [hb] at h'; exact cd_grow _ _ _ _ _ _ _ h'
    · intro pc st' q1 q2 q3 q4
      subst q4
      rw [← q3]
      exact hret pc ls q1 q2
