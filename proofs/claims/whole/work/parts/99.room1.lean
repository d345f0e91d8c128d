/-! ===== the class: rooms ===== -/
theorem cf_cnt_le2 {p q : Nat → Bool} : ∀ n, (∀ k, k < n → p k = true → q k = true) → fa_cnt p n ≤ fa_cnt q n := by
  intro n
  induction n with
  | zero => intro _; exact Nat.le_refl 0
  | succ n ih =>
    intro h
    have h1 := ih (fun k hk => h k (by omega))
    rw [ce_cnt_s, ce_cnt_s]
    cases hp : p n with
    | false => rw [if_neg (show ¬ false = true by decide)]; omega
    | true => rw [h n (by omega) hp]; omega
theorem cf_cnt_st {p q : Nat → Bool} {k0 : Nat} (hp : p k0 = false) (hq : q k0 = true) : ∀ n, k0 < n → (∀ k, k < n → p k = true → q k = true) → fa_cnt p n < fa_cnt q n := by
  intro n
  induction n with
  | zero => intro h; omega
  | succ n ih =>
    intro hk h
    rw [ce_cnt_s, ce_cnt_s]
    by_cases hkn : k0 = n
    · subst hkn
      have h1 := cf_cnt_le2 (p := p) (q := q) k0 (fun k hk => h k (by omega))
      rw [hp, hq, if_neg (show ¬ false = true by decide), if_pos rfl]
      omega
    · have h1 := ih (by omega) (fun k hk => h k (by omega))
      cases hp2 : p n with
      | false => rw [if_neg (show ¬ false = true by decide)]; omega
      | true => rw [h n (by omega) hp2]; omega
section CGJ
variable {L : Nat} {w : Bool} {I : Nat → Nat → Int32} {J : Nat → Nat → Int64} {D : cd_D} {S : cd_S}
variable {P : Nat → Bool}
theorem cp_92 {f0 : Nat} (hf : f0 < 64) (h1 : P f0 = true) (h0 : ∀ j, j < f0 → P j = false) {G : Nat → Bool} (hG : ∀ c, c < 64 → (G c = true ↔ ce_cn P f0 c)) : cd_c 92 [.long (lN (ce_msk P 64))] (cd_mm L w I J) = some (some (.long (lN (ce_msk G 64))), cd_mm L w I J) := by
  refine cw_eq (cw_c (l := [_, _, _, _, _, _, _]) rfl rfl ?_)
  refine cw_m (fun _ => cd_s92_0) ?_
  rw [cf_least hf h1 h0, cf_one hf]
  have go := cw_up (L := L) (w := w) (Q := fun v2 I2 J2 => v2 = some (.long (lN (ce_msk G 64))) ∧ I2 = I ∧ J2 = J) (fun i (y : (Nat → Bool) × Value) => cd_go 92 7 [.long (lN (ce_msk P 64)), .null, .long (lN (ce_msk y.1 64)), .null, .int (nI i), y.2, .null] [] (cd_mm L w I J)) (fun i y => (∀ c, c < 64 → y.1 c = true → ce_cn P f0 c) ∧ y.1 f0 = true ∧ i + 1 ≤ fa_cnt y.1 64) 64 ?_ ?_ 0 (fun c => decide (f0 = c), .null) (Nat.zero_le _) ⟨fun c _ h => ?_, decide_eq_true rfl, ?_⟩
  · exact go
  · intro ⟨A, v5⟩ ⟨_, _, h⟩
    have := fa_cnt_le A 64
    replace h : 64 + 1 ≤ fa_cnt A 64 := h
    omega
  · intro i ⟨A, v5⟩ hi ⟨a1, a2, a3⟩ K
    replace a1 : ∀ c, c < 64 → A c = true → ce_cn P f0 c := a1
    replace a2 : A f0 = true := a2
    replace a3 : i + 1 ≤ fa_cnt A 64 := a3
    show cw L w (cd_go 92 7 [.long (lN (ce_msk P 64)), .null, .long (lN (ce_msk A 64)), .null, .int (nI i), v5, .null] [] (cd_mm L w I J)) _
    refine cw_m (fun _ => cd_s92_7) ?_
    rw [if_pos (show nI i < 64 from nI_lt (b := 64) hi (by decide)), cp_91, cw_bl]
    refine cw_m (fun _ => cd_s92_13) ?_
    rw [cf_or (h := fun c => A c || cf_sd A c) (fun _ _ => rfl), cf_andm (h := fun c => (A c || cf_sd A c) && P c) (fun _ _ => rfl), nI_1]
    have hAP : ∀ c, c < 64 → A c = true → P c = true := fun c hc h => (ce_cn_P h1 hf (a1 c hc h)).1
    by_cases he : lg_cmp (lN (ce_msk (fun c => (A c || cf_sd A c) && P c) 64)) (lN (ce_msk A 64)) = 0
    · rw [if_pos he]
      have he := cf_msame.mp he
      have cl : ∀ n c, ce_rc P n f0 c → A c = true := by
        intro n
        induction n with
        | zero => intro c h; rw [← show f0 = c from h]; exact a2
        | succ n ih =>
          intro c ⟨e, h2, h3, h4⟩
          have he64 := (ce_rc_P h1 hf h2).2
          have hc64 := ce_ad_lt he64 h3
          rw [← he c hc64, (cf_sd_ad hc64).mpr ⟨e, ce_ad_sy he64 h3, ih e h2⟩, Bool.or_true, Bool.true_and]
          exact h4
      refine cw_ret ⟨?_, rfl, rfl⟩
      rw [cf_cong (f := A) (h := G) (fun c hc => ?_)]
      cases hA : A c with
      | true => exact ((hG c hc).mpr (a1 c hc hA)).symm
      | false =>
        cases hg : G c with
        | false => rfl
        | true =>
          obtain ⟨n, hn⟩ := (hG c hc).mp hg
          rw [cl n c hn] at hA
          cases hA
    · rw [if_neg he]
      have hne : ¬ ∀ c, c < 64 → ((A c || cf_sd A c) && P c) = A c := fun h => he (cf_msame.mpr h)
      obtain ⟨c0, hc0⟩ := Classical.not_forall.mp hne
      obtain ⟨hc64, hcn⟩ := Classical.not_imp.mp hc0
      have hsub : ∀ c, c < 64 → A c = true → ((A c || cf_sd A c) && P c) = true := fun c hc h => by rw [h, Bool.true_or, Bool.true_and]; exact hAP c hc h
      have hA0 : A c0 = false := by
        cases hA : A c0 with
        | false => rfl
        | true => exact absurd ((hsub c0 hc64 hA).trans hA.symm) hcn
      have hB0 : ((A c0 || cf_sd A c0) && P c0) = true := by
        cases hB : ((A c0 || cf_sd A c0) && P c0) with
        | true => rfl
        | false => exact absurd (hB.trans hA0.symm) hcn
      refine K (fun c => (A c || cf_sd A c) && P c, _) ⟨fun c hc h => ?_, hsub f0 hf a2, ?_⟩
      · replace h : ((A c || cf_sd A c) && P c) = true := h
        rw [Bool.and_eq_true, Bool.or_eq_true] at h
        rcases h.1 with h2 | h2
        · exact a1 c hc h2
        · obtain ⟨d, h3, h4⟩ := (cf_sd_ad hc).mp h2
          have hd := ce_ad_lt hc h3
          exact ce_cn_tr (a1 d hd h4) (ce_cn_st (ce_ad_sy hc h3) h.2)
      · have := cf_cnt_st hA0 hB0 64 hc64 (fun k hk h => hsub k hk h)
        show i + 1 + 1 ≤ fa_cnt (fun c => (A c || cf_sd A c) && P c) 64
        omega
  · replace h : decide (f0 = c) = true := h
    rw [decide_eq_true_eq] at h
    rw [← h]
    exact ce_cn_rf f0
  · have := cf_cnt_st (p := fun _ => false) (q := fun c => decide (f0 = c)) (k0 := f0) rfl (decide_eq_true rfl) 64 hf (fun k _ h => by cases h)
    show 0 + 1 ≤ fa_cnt (fun c => decide (f0 = c)) 64
    omega
end CGJ
/-- what is left: rooms with a least cell n or more -/
noncomputable def cf_q (P : Nat → Bool) (n : Nat) : Nat → Bool := fun c => P c && decide (n ≤ ce_lb P c)
section CGK
variable {P : Nat → Bool}
theorem cf_cn_q {n a b : Nat} (ha : cf_q P n a = true) (ha2 : a < 64) (h : ce_cn P a b) : ce_cn (cf_q P n) a b := by
  have hq := ha
  unfold cf_q at hq
  rw [Bool.and_eq_true, decide_eq_true_eq] at hq
  have key : ∀ m b, ce_rc P m a b → ce_cn (cf_q P n) a b := by
    intro m
    induction m with
    | zero => intro b h; rw [show a = b from h]; exact ce_cn_rf b
    | succ m ih =>
      intro b ⟨e, h2, h3, h4⟩
      refine ce_cn_tr (ih e h2) (ce_cn_st h3 ?_)
      have := ce_lb_eq hq.1 ha2 ⟨m + 1, e, h2, h3, h4⟩
      unfold cf_q
      rw [h4, Bool.true_and, decide_eq_true_eq, ← this]
      exact hq.2
  obtain ⟨m, hm⟩ := h
  exact key m b hm
theorem cf_cn_p {n a b : Nat} (h : ce_cn (cf_q P n) a b) : ce_cn P a b := by
  have key : ∀ m b, ce_rc (cf_q P n) m a b → ce_cn P a b := by
    intro m
    induction m with
    | zero => intro b h; rw [show a = b from h]; exact ce_cn_rf b
    | succ m ih =>
      intro b ⟨e, h2, h3, h4⟩
      unfold cf_q at h4
      rw [Bool.and_eq_true] at h4
      exact ce_cn_tr (ih e h2) (ce_cn_st h3 h4.1)
  obtain ⟨m, hm⟩ := h
  exact key m b hm
theorem cf_step {n f0 : Nat} (hf : f0 < 64) (h1 : cf_q P n f0 = true) (h0 : ∀ j, j < f0 → cf_q P n j = false) : (P f0 = true ∧ ce_lb P f0 = f0) ∧ n ≤ f0 ∧ (∀ r, n ≤ r → r < f0 → ¬ (P r = true ∧ ce_lb P r = r)) ∧ (∀ c, c < 64 → (ce_in P f0 c = true ↔ ce_cn (cf_q P n) f0 c)) ∧ ∀ c, c < 64 → cf_q P (f0 + 1) c = (cf_q P n c && !ce_in P f0 c) := by
  have hq := h1
  unfold cf_q at hq
  rw [Bool.and_eq_true, decide_eq_true_eq] at hq
  obtain ⟨r1, r2⟩ := ce_lb_P hq.1 hf
  have r3 := ce_lb_lb hq.1 hf
  have root : ce_lb P f0 = f0 := by
    have hle := ce_lb_self (P := P) f0
    rcases Nat.lt_or_ge (ce_lb P f0) f0 with h | h
    · have := h0 _ h
      unfold cf_q at this
      rw [r1, Bool.true_and, decide_eq_false_iff_not, r3] at this
      exact absurd hq.2 this
    · omega
  have hn : n ≤ f0 := by rw [← root]; exact hq.2
  have noroot : ∀ r, n ≤ r → r < f0 → ¬ (P r = true ∧ ce_lb P r = r) := fun r h2 h3 ⟨h4, h5⟩ => by
    have := h0 r h3
    unfold cf_q at this
    rw [h4, Bool.true_and, decide_eq_false_iff_not, h5] at this
    exact this h2
  refine ⟨⟨hq.1, root⟩, hn, noroot, fun c hc => ⟨fun h => ?_, fun h => ?_⟩, fun c hc => ?_⟩
  · unfold ce_in at h
    rw [Bool.and_eq_true, decide_eq_true_eq] at h
    have h2 := ce_lb_cn (P := P) c
    rw [h.2] at h2
    exact cf_cn_q h1 hf (ce_cn_sy h.1 hc h2)
  · have h2 := cf_cn_p h
    have h3 := ce_lb_eq hq.1 hf h2
    unfold ce_in
    rw [(ce_cn_P hq.1 hf h2).1, Bool.true_and, decide_eq_true_eq, ← h3]
    exact root
  · unfold cf_q ce_in
    cases hP : P c with
    | false => rfl
    | true =>
      rw [Bool.true_and, Bool.true_and, Bool.true_and]
      by_cases he : ce_lb P c = f0
      · rw [decide_eq_true he, Bool.not_true, Bool.and_false, decide_eq_false (by omega)]
      · rw [decide_eq_false he, Bool.not_false, Bool.and_true]
        refine decide_eq_decide.mpr ⟨fun h => by omega, fun h => ?_⟩
        rcases Nat.lt_or_ge (ce_lb P c) f0 with h2 | h2
        · exact absurd ⟨(ce_lb_P hP hc).1, ce_lb_lb hP hc⟩ (noroot _ h h2)
        · omega
theorem cf_gr_skip {n : Nat} : ∀ m, n ≤ m → (∀ r, n ≤ r → r < m → ¬ (P r = true ∧ ce_lb P r = r)) → ce_gr P m = ce_gr P n := by
  intro m
  induction m with
  | zero => intro h _; rw [show n = 0 by omega]
  | succ m ih =>
    intro h hr
    by_cases hn : n = m + 1
    · rw [hn]
    · have := ih (by omega) (fun r h1 h2 => hr r h1 (by omega))
      have hz : ce_nb P m = 0 := by
        unfold ce_nb
        rw [if_neg (fun q => by
          rw [Bool.and_eq_true, decide_eq_true_eq] at q
          exact hr m (by omega) (by omega) q)]
      show (if (ce_gr P m).2 < ce_nb P m then (some m, ce_nb P m) else ce_gr P m) = _
      rw [hz, if_neg (Nat.not_lt_zero _), this]
theorem cf_cn_skip {n : Nat} : ∀ m, n ≤ m → (∀ r, n ≤ r → r < m → ¬ (P r = true ∧ ce_lb P r = r)) → fa_cnt (fun c => ce_in P c c) m = fa_cnt (fun c => ce_in P c c) n := by
  intro m
  induction m with
  | zero => intro h _; rw [show n = 0 by omega]
  | succ m ih =>
    intro h hr
    by_cases hn : n = m + 1
    · rw [hn]
    · have := ih (by omega) (fun r h1 h2 => hr r h1 (by omega))
      rw [ce_cnt_s, this, if_neg (fun q => by
        unfold ce_in at q
        rw [Bool.and_eq_true, decide_eq_true_eq] at q
        exact hr m (by omega) (by omega) q), Nat.add_zero]
theorem cf_q_end {n : Nat} (h : ∀ c, c < 64 → cf_q P n c = false) (r : Nat) (h1 : n ≤ r) (h2 : r < 64) : ¬ (P r = true ∧ ce_lb P r = r) := fun ⟨h3, h4⟩ => by
  have := h r h2
  unfold cf_q at this
  rw [h3, Bool.true_and, decide_eq_false_iff_not, h4] at this
  exact this h1
theorem cf_q_least {n : Nat} (h : ¬ ∀ c, c < 64 → cf_q P n c = false) : ∃ f0, f0 < 64 ∧ cf_q P n f0 = true ∧ ∀ j, j < f0 → cf_q P n j = false := by
  cases hq : ce_fst (cf_q P n) 64 0 with
  | none => exact absurd (fun c hc => ce_fst_none hq c (Nat.zero_le _) (by omega)) h
  | some f =>
    obtain ⟨g1, g2, g3, g4⟩ := ce_fst_some hq
    exact ⟨f, by omega, g3, fun j hj => g4 j (Nat.zero_le _) hj⟩
/-- the room that an answer names -/
noncomputable def cf_bo (P : Nat → Bool) : Option Nat → Nat → Bool
  | none => fun _ => false
  | some f => ce_in P f
theorem cf_bo_A : lN (ce_msk (cf_bo P (ce_gt P)) 64) = lN (ce_ceA P) := by
  unfold ce_ceA
  cases ce_gt P with
  | none => exact cf_msk0
  | some f => rfl
theorem cf_cnt0 : fa_cnt (fun _ => false) 64 = 0 := by decide
theorem cf_bo_cnt {n : Nat} (hn : n ≤ 64) : fa_cnt (cf_bo P (ce_gr P n).1) 64 = (ce_gr P n).2 := by
  obtain ⟨_, h1, h2⟩ := ce_gr_b (P := P) n hn
  cases hg : (ce_gr P n).1 with
  | none => rw [h2 hg]; exact cf_cnt0
  | some f => rw [(h1 f hg).2.2.2]; rfl
theorem cf_q0 : lN (ce_msk P 64) = lN (ce_msk (cf_q P 0) 64) := cf_cong (fun c _ => by
  unfold cf_q
  rw [decide_eq_true (Nat.zero_le _), Bool.and_true])
end CGK
section CGL
variable {L : Nat} {w : Bool} {I : Nat → Nat → Int32} {J : Nat → Nat → Int64} {D : cd_D} {S : cd_S}
variable {P : Nat → Bool}
theorem cp_94 : cd_c 94 [.long (lN (ce_msk P 64))] (cd_mm L w I J) = some (some (.long (lN (ce_msk (cf_bo P (ce_gt P)) 64))), cd_mm L w I J) := by
  refine cw_eq (cw_c (l := [_, _, _, _, _, _, _, _, _]) rfl rfl ?_)
  refine cw_m (fun _ => cd_s94_0) ?_
  have go := cw_up (L := L) (w := w) (Q := fun v2 I2 J2 => v2 = some (.long (lN (ce_msk (cf_bo P (ce_gt P)) 64))) ∧ I2 = I ∧ J2 = J) (fun i (y : Nat × Value) => cd_go 94 6 [.long (lN (ce_msk P 64)), .null, .long (lN (ce_msk (cf_bo P (ce_gr P y.1).1) 64)), .null, .long (lN (ce_msk (cf_q P y.1) 64)), .null, .int (nI i), y.2, .null] [] (cd_mm L w I J)) (fun i y => i ≤ y.1 ∧ y.1 ≤ 64) 64 ?_ ?_ 0 (0, .null) (Nat.zero_le _) ⟨Nat.le_refl _, Nat.zero_le _⟩
  · rw [← cf_q0] at go
    exact go
  · intro ⟨n, v7⟩ ⟨h1, h2⟩
    replace h1 : 64 ≤ n := h1
    replace h2 : n ≤ 64 := h2
    have : n = 64 := by omega
    subst this
    refine cw_m (fun _ => cd_s94_6) ?_
    rw [if_neg (show ¬ nI 64 < 64 by decide)]
    exact cw_ret ⟨rfl, rfl, rfl⟩
  · intro i ⟨n, v7⟩ hi ⟨h1, h2⟩ K
    replace h1 : i ≤ n := h1
    replace h2 : n ≤ 64 := h2
    show cw L w (cd_go 94 6 [.long (lN (ce_msk P 64)), .null, .long (lN (ce_msk (cf_bo P (ce_gr P n).1) 64)), .null, .long (lN (ce_msk (cf_q P n) 64)), .null, .int (nI i), v7, .null] [] (cd_mm L w I J)) _
    refine cw_m (fun _ => cd_s94_6) ?_
    rw [if_pos (show nI i < 64 from nI_lt (b := 64) hi (by decide))]
    by_cases hz : lg_cmp (lN (ce_msk (cf_q P n) 64)) 0 = 0
    · rw [if_pos hz]
      have hz := cf_mnull.mp hz
      refine cw_ret ⟨?_, rfl, rfl⟩
      unfold ce_gt
      rw [cf_gr_skip 64 h2 (cf_q_end hz)]
    · rw [if_neg hz]
      obtain ⟨f0, hf, g1, g0⟩ := cf_q_least (fun h => hz (cf_mnull.mpr h))
      obtain ⟨⟨s1, s2⟩, s3, s4, s5, s6⟩ := cf_step hf g1 g0
      rw [cp_92 hf g1 g0 s5, cw_bl]
      refine cw_m (fun _ => cd_s94_15) ?_
      rw [cp_93m, cw_bi]
      refine cw_m (fun _ => cd_s94_18) ?_
      rw [cp_93m, cw_bi, cf_bo_cnt h2]
      refine cw_m (fun _ => cd_s94_20) ?_
      rw [cf_notm (h := fun c => !ce_in P f0 c) (fun _ _ => rfl), cf_andm (h := cf_q P (f0 + 1)) s6, nI_1]
      have hb := (ce_gr_b (P := P) n h2).1
      have hc := fa_cnt_le (ce_in P f0) 64
      have hg : ce_gr P (f0 + 1) = if (ce_gr P n).2 < fa_cnt (ce_in P f0) 64 then (some f0, fa_cnt (ce_in P f0) 64) else ce_gr P n := by
        have e : ce_nb P f0 = fa_cnt (ce_in P f0) 64 := by
          unfold ce_nb
          rw [if_pos (by rw [s1, s2, Bool.true_and, decide_eq_true_eq])]
          rfl
        show (if (ce_gr P f0).2 < ce_nb P f0 then (some f0, ce_nb P f0) else ce_gr P f0) = _
        rw [e, cf_gr_skip f0 s3 s4]
      have := K (f0 + 1, .long (lN (ce_msk (ce_in P f0) 64))) ⟨by show i + 1 ≤ f0 + 1; omega, by show f0 + 1 ≤ 64; omega⟩
      replace this : cw L w (cd_go 94 6 [.long (lN (ce_msk P 64)), .null, .long (lN (ce_msk (cf_bo P (ce_gr P (f0 + 1)).1) 64)), .null, .long (lN (ce_msk (cf_q P (f0 + 1)) 64)), .null, .int (nI (i + 1)), .long (lN (ce_msk (ce_in P f0) 64)), .null] [] (cd_mm L w I J)) (fun v2 I2 J2 => v2 = some (.long (lN (ce_msk (cf_bo P (ce_gt P)) 64))) ∧ I2 = I ∧ J2 = J) := this
      rw [hg] at this
      by_cases hl : (ce_gr P n).2 < fa_cnt (ce_in P f0) 64
      · rw [if_pos (nI_lt hl (by omega))]
        rw [if_pos hl] at this
        exact this
      · rw [if_neg (fun q => hl ((nI_ltI (by omega) (by omega)).mp q))]
        rw [if_neg hl] at this
        exact this
theorem cp_103 : cd_c 103 [.long (lN (ce_msk P 64))] (cd_mm L w I J) = some (some (.int (nI (fa_cnt (fun c => ce_in P c c) 64))), cd_mm L w I J) := by
  refine cw_eq (cw_c (l := [_, _, _, _, _, _]) rfl rfl ?_)
  refine cw_m (fun _ => cd_s103_0) ?_
  have go := cw_up (L := L) (w := w) (Q := fun v2 I2 J2 => v2 = some (.int (nI (fa_cnt (fun c => ce_in P c c) 64))) ∧ I2 = I ∧ J2 = J) (fun i (n : Nat) => cd_go 103 6 [.long (lN (ce_msk P 64)), .null, .int (nI (fa_cnt (fun c => ce_in P c c) n)), .long (lN (ce_msk (cf_q P n) 64)), .null, .int (nI i)] [] (cd_mm L w I J)) (fun i n => i ≤ n ∧ n ≤ 64) 64 ?_ ?_ 0 0 (Nat.zero_le _) ⟨Nat.le_refl _, Nat.zero_le _⟩
  · rw [← cf_q0] at go
    exact go
  · intro n ⟨h1, h2⟩
    have : n = 64 := by omega
    subst this
    refine cw_m (fun _ => cd_s103_6) ?_
    rw [if_neg (show ¬ nI 64 < 64 by decide)]
    exact cw_ret ⟨rfl, rfl, rfl⟩
  · intro i n hi ⟨h1, h2⟩ K
    refine cw_m (fun _ => cd_s103_6) ?_
    rw [if_pos (show nI i < 64 from nI_lt (b := 64) hi (by decide))]
    by_cases hz : lg_cmp (lN (ce_msk (cf_q P n) 64)) 0 = 0
    · rw [if_pos hz]
      have hz := cf_mnull.mp hz
      refine cw_ret ⟨?_, rfl, rfl⟩
      rw [cf_cn_skip 64 h2 (cf_q_end hz)]
    · rw [if_neg hz]
      obtain ⟨f0, hf, g1, g0⟩ := cf_q_least (fun h => hz (cf_mnull.mpr h))
      obtain ⟨⟨s1, s2⟩, s3, s4, s5, s6⟩ := cf_step hf g1 g0
      rw [cp_92 hf g1 g0 s5, cw_bl]
      refine cw_m (fun _ => cd_s103_16) ?_
      rw [cf_notm (h := fun c => !ce_in P f0 c) (fun _ _ => rfl), cf_andm (h := cf_q P (f0 + 1)) s6, nI_1, nI_1]
      have := K (f0 + 1) ⟨by omega, by omega⟩
      rw [ce_cnt_s, cf_cn_skip f0 s3 s4, if_pos (show ce_in P f0 f0 = true by unfold ce_in; rw [s1, s2, Bool.true_and, decide_eq_true_eq])] at this
      exact this
end CGL
