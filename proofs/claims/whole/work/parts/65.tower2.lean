/-! ===== the reference: tower ===== -/
def ce_toA (D : cd_D) (x : Int32) : Int32 := if x = -1 then nI (ce_tall D) else if ce_ix x 8 && !ce_any (fun i => decide (i ≤ x.toNatClampNeg) && ce_tz D i 0) 8 then cd_oi (ce_tf D (ce_tz D x.toNatClampNeg)) else -1
theorem ce_tall_le {D : cd_D} : ∀ n s, s < n → ce_pile D s = true → ce_ht D s ≤ ce_tm D n := by
  intro n
  induction n with
  | zero => intro s hs; omega
  | succ n ih =>
    intro s hs hp
    have e : ce_tm D (n + 1) = if ce_pile D n && decide (ce_tm D n < ce_ht D n) then ce_ht D n else ce_tm D n := rfl
    rw [e]
    by_cases hsn : s = n
    · subst hsn
      rw [hp, Bool.true_and]
      by_cases hl : ce_tm D s < ce_ht D s
      · rw [decide_eq_true hl, if_pos rfl]; exact Nat.le_refl _
      · rw [decide_eq_false hl, if_neg (by decide)]; omega
    · have := ih s (by omega) hp
      cases hq : (ce_pile D n && decide (ce_tm D n < ce_ht D n)) with
      | true =>
        rw [Bool.and_eq_true, decide_eq_true_eq] at hq
        rw [if_pos rfl]
        omega
      | false => rw [if_neg (by decide)]; exact this
theorem ce_tall_at {D : cd_D} : ∀ n, 0 < n → ∃ s, s < n ∧ ce_pile D s = true ∧ ce_ht D s = ce_tm D n := by
  intro n
  induction n with
  | zero => intro h; omega
  | succ n ih =>
    intro _
    have e : ce_tm D (n + 1) = if ce_pile D n && decide (ce_tm D n < ce_ht D n) then ce_ht D n else ce_tm D n := rfl
    rw [e]
    cases hq : (ce_pile D n && decide (ce_tm D n < ce_ht D n)) with
    | true =>
      rw [if_pos rfl]
      rw [Bool.and_eq_true] at hq
      exact ⟨n, Nat.lt_succ_self _, hq.1, rfl⟩
    | false =>
      rw [if_neg (by decide)]
      by_cases hn : n = 0
      · subst hn
        have h0 : ce_pile D 0 = true := by
          unfold ce_pile
          rw [ce_pg_eq (Nat.pow_pos (by decide)), decide_eq_true rfl]
          rfl
        refine ⟨0, by omega, h0, ?_⟩
        rw [h0, Bool.true_and, decide_eq_false_iff_not] at hq
        have : ce_tm D 0 = 0 := rfl
        omega
      · obtain ⟨s, h1, h2⟩ := ih (by omega)
        exact ⟨s, by omega, h2⟩
theorem ce_2pos {n : Nat} : 0 < 2 ^ n := Nat.pow_pos (by decide)
/-- what is asked for is a pile; sets of i things fewer -/
theorem ce_tz_pile {D : cd_D} : ∀ i s, s < 2 ^ D 0 0 → ce_tz D i s = true → ce_pile D s = true := by
  intro i
  cases i with
  | zero =>
    intro s _ h
    unfold ce_tz at h
    rw [Bool.and_eq_true] at h
    exact h.1
  | succ i =>
    intro s hs h
    unfold ce_tz at h
    cases hf : ce_tf D (ce_tz D i) with
    | none => rw [hf] at h; cases h
    | some t =>
      rw [hf] at h
      dsimp only at h
      rw [Bool.and_eq_true, Bool.and_eq_true, Bool.not_eq_true'] at h
      obtain ⟨h1, -, h3⟩ := h
      unfold ce_cb ce_po at h3
      rw [Bool.and_eq_true, Bool.and_eq_true] at h3
      have e : (s ||| 2 ^ t) ^^^ 2 ^ t = s := by
        refine Nat.eq_of_testBit_eq (fun k => ?_)
        rw [ce_xtb, Nat.testBit_or, ce_2tb]
        by_cases hk : t = k
        · subst hk; rw [h1, decide_eq_true rfl]; rfl
        · rw [decide_eq_false hk]; cases s.testBit k <;> rfl
      rw [e] at h3
      exact h3.2.2
theorem ce_tz_ne {D : cd_D} : ∀ i, (∀ j, j < i → ce_tz D j 0 = false) → ∃ s, s < 2 ^ D 0 0 ∧ ce_tz D i s = true := by
  intro i
  induction i with
  | zero =>
    intro _
    obtain ⟨s, h1, h2, h3⟩ := ce_tall_at (D := D) (2 ^ D 0 0) ce_2pos
    refine ⟨s, h1, ?_⟩
    unfold ce_tz
    rw [h2, Bool.true_and]
    exact decide_eq_true h3
  | succ i ih =>
    intro h
    obtain ⟨s, h1, h2⟩ := ih (fun j hj => h j (by omega))
    have hs0 : s ≠ 0 := fun q => by rw [q, h i (by omega)] at h2; cases h2
    have hp := ce_tz_pile i s h1 h2
    unfold ce_pile at hp
    rw [ce_pg_eq h1, decide_eq_false hs0, Bool.false_or, ce_any_t] at hp
    obtain ⟨t, ht, hpo⟩ := hp
    cases hf : ce_tf D (ce_tz D i) with
    | none =>
      have := ce_fst_none hf t (by omega) (by omega)
      have h3 : ce_any (fun s => ce_tz D i s && ce_cb D t s) (2 ^ D 0 0) = true := ce_any_t.mpr ⟨s, h1, by rw [h2]; exact hpo⟩
      rw [h3] at this
      cases this
    | some u =>
      obtain ⟨-, h3, h4, -⟩ := ce_fst_some hf
      rw [ce_any_t] at h4
      obtain ⟨s2, h5, h6⟩ := h4
      rw [Bool.and_eq_true] at h6
      have hb : s2.testBit u = true := by
        have := h6.2
        unfold ce_cb ce_po at this
        rw [Bool.and_eq_true] at this
        exact this.1
      refine ⟨s2 ^^^ 2 ^ u, ce_xlt h5 (by omega), ?_⟩
      unfold ce_tz
      rw [hf]
      dsimp only
      have e : (s2 ^^^ 2 ^ u) ||| 2 ^ u = s2 := by
        refine Nat.eq_of_testBit_eq (fun k => ?_)
        rw [Nat.testBit_or, ce_xtb, ce_2tb]
        by_cases hk : u = k
        · subst hk; rw [hb, decide_eq_true rfl]; rfl
        · rw [decide_eq_false hk]; cases s2.testBit k <;> rfl
      rw [e, h6.1, h6.2, ce_xtb, hb, decide_eq_true rfl]
      rfl
theorem ce_tf_lt {D : cd_D} {Z : Nat → Bool} {t : Nat} (h : ce_tf D Z = some t) : t < D 0 0 := by
  have := (ce_fst_some h).2.1
  omega
theorem ce_tf_some {D : cd_D} {i : Nat} (h : ∀ j, j ≤ i → ce_tz D j 0 = false) : ∃ t, ce_tf D (ce_tz D i) = some t := by
  obtain ⟨s, h1, h2⟩ := ce_tz_ne i (fun j hj => h j (by omega))
  have hs0 : s ≠ 0 := fun q => by rw [q, h i (Nat.le_refl _)] at h2; cases h2
  have hp := ce_tz_pile i s h1 h2
  unfold ce_pile at hp
  rw [ce_pg_eq h1, decide_eq_false hs0, Bool.false_or, ce_any_t] at hp
  obtain ⟨t, ht, hpo⟩ := hp
  cases hf : ce_tf D (ce_tz D i) with
  | none =>
    have := ce_fst_none hf t (by omega) (by omega)
    have h3 : ce_any (fun s => ce_tz D i s && ce_cb D t s) (2 ^ D 0 0) = true := ce_any_t.mpr ⟨s, h1, by rw [h2]; exact hpo⟩
    rw [h3] at this
    cases this
  | some u => exact ⟨u, rfl⟩
/-- a set asked for has i things fewer than there are -/
theorem ce_tz_cnt {D : cd_D} : ∀ i s, s < 2 ^ D 0 0 → ce_tz D i s = true → fa_cnt (fun k => s.testBit k) (D 0 0) + i ≤ D 0 0 := by
  intro i
  induction i with
  | zero => intro s _ _; exact fa_cnt_le _ _
  | succ i ih =>
    intro s hs h
    unfold ce_tz at h
    cases hf : ce_tf D (ce_tz D i) with
    | none => rw [hf] at h; cases h
    | some t =>
      rw [hf] at h
      dsimp only at h
      rw [Bool.and_eq_true, Bool.and_eq_true, Bool.not_eq_true'] at h
      obtain ⟨h1, h2, -⟩ := h
      have ht := ce_tf_lt hf
      have e : (s ||| 2 ^ t) ^^^ 2 ^ t = s := by
        refine Nat.eq_of_testBit_eq (fun k => ?_)
        rw [ce_xtb, Nat.testBit_or, ce_2tb]
        by_cases hk : t = k
        · subst hk; rw [h1, decide_eq_true rfl]; rfl
        · rw [decide_eq_false hk]; cases s.testBit k <;> rfl
      have h3 := ih (s ||| 2 ^ t) (ce_or_lt hs (Nat.pow_lt_pow_right (by decide) ht)) h2
      have h4 := ce_cnt_flip (m := s ||| 2 ^ t) (k := t) (by rw [Nat.testBit_or, ce_2tb, decide_eq_true rfl, Bool.or_true]) (D 0 0) ht
      rw [e] at h4
      omega
