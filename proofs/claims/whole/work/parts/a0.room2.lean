/-! ===== the class: doors, light ===== -/
theorem cf_nr_le {D : cd_D} {c k : Nat} : ∀ n, ce_nr D c n ≤ k ↔ 100 ≤ k ∨ ∃ d, d < n ∧ ce_cov D d = false ∧ cd_stp c d ≤ k := by
  intro n
  induction n with
  | zero => exact ⟨fun h => Or.inl h, fun h => by
      rcases h with h | ⟨d, hd, _⟩
      · exact h
      · omega⟩
  | succ n ih =>
    have e : ce_nr D c (n + 1) ≤ k ↔ ce_nr D c n ≤ k ∨ (if ce_cov D n then 100 else cd_stp c n) ≤ k := by
      show (if (if ce_cov D n then 100 else cd_stp c n) < ce_nr D c n then (if ce_cov D n then 100 else cd_stp c n) else ce_nr D c n) ≤ k ↔ _
      generalize (if ce_cov D n then 100 else cd_stp c n) = v
      split <;> omega
    rw [e, ih]
    cases hc : ce_cov D n with
    | true =>
      rw [if_pos rfl]
      refine ⟨fun h => ?_, fun h => ?_⟩
      · rcases h with (h | ⟨d, h1, h2⟩) | h
        · exact Or.inl h
        · exact Or.inr ⟨d, by omega, h2⟩
        · exact Or.inl h
      · rcases h with h | ⟨d, h1, h2⟩
        · exact Or.inl (Or.inl h)
        · refine Or.inl (Or.inr ⟨d, ?_, h2⟩)
          have : d ≠ n := fun q => by rw [q, hc] at h2; exact absurd h2.1 (by decide)
          omega
    | false =>
      rw [if_neg (by decide)]
      refine ⟨fun h => ?_, fun h => ?_⟩
      · rcases h with (h | ⟨d, h1, h2⟩) | h
        · exact Or.inl h
        · exact Or.inr ⟨d, by omega, h2⟩
        · exact Or.inr ⟨n, by omega, hc, h⟩
      · rcases h with h | ⟨d, h1, h2, h3⟩
        · exact Or.inl (Or.inl h)
        · by_cases hd : d = n
          · subst hd; exact Or.inr h3
          · exact Or.inl (Or.inr ⟨d, by omega, h2, h3⟩)
theorem cf_stp_dn {c d i : Nat} (hc : c < 64) (hd : d < 64) (h : cd_stp c d = i + 1) : ∃ e, ce_ad c e ∧ cd_stp e d = i := by
  unfold cd_stp cd_dst at h
  by_cases h1 : c / 8 < d / 8
  · refine ⟨c + 8, (ce_ad_iff hc).mpr (by omega), ?_⟩
    unfold cd_stp cd_dst
    rw [if_pos h1] at h
    split at h <;> split <;> split <;> omega
  · by_cases h2 : d / 8 < c / 8
    · refine ⟨c - 8, (ce_ad_iff hc).mpr (by omega), ?_⟩
      unfold cd_stp cd_dst
      rw [if_neg h1] at h
      split at h <;> split <;> split <;> omega
    · by_cases h3 : c % 8 < d % 8
      · refine ⟨c + 1, (ce_ad_iff hc).mpr (by omega), ?_⟩
        unfold cd_stp cd_dst
        rw [if_neg h1, if_pos h3] at h
        split <;> split <;> omega
      · refine ⟨c - 1, (ce_ad_iff hc).mpr (by
          rw [if_neg h1, if_neg h3] at h
          omega), ?_⟩
        unfold cd_stp cd_dst
        rw [if_neg h1, if_neg h3] at h
        split <;> split <;> omega
theorem cf_stp_up {c d e : Nat} (hc : c < 64) (h : ce_ad c e) : cd_stp c d ≤ cd_stp e d + 1 := by
  unfold cd_stp cd_dst
  rcases (ce_ad_iff hc).mp h with h | h | h | h
  · split <;> split <;> split <;> split <;> omega
  · split <;> split <;> split <;> split <;> omega
  · split <;> split <;> split <;> split <;> omega
  · split <;> split <;> split <;> split <;> omega
theorem cf_stp0 {c d : Nat} (hc : c < 64) (hd : d < 64) (h : cd_stp c d = 0) : c = d := by
  unfold cd_stp cd_dst at h
  split at h <;> split at h <;> omega
theorem cf_stpr (c : Nat) : cd_stp c c = 0 := by
  unfold cd_stp cd_dst
  rw [if_neg (Nat.lt_irrefl _), if_neg (Nat.lt_irrefl _)]
  omega
theorem cf_lit0 {D : cd_D} {c : Nat} (hc : c < 64) : decide (ce_nr D c 64 ≤ 0) = !ce_cov D c := by
  cases hv : ce_cov D c with
  | false => exact decide_eq_true ((cf_nr_le 64).mpr (Or.inr ⟨c, hc, hv, by rw [cf_stpr]; exact Nat.le_refl 0⟩))
  | true =>
    refine decide_eq_false (fun h => ?_)
    rcases (cf_nr_le 64).mp h with h | ⟨d, h1, h2, h3⟩
    · omega
    · rw [cf_stp0 hc h1 (by omega), h2] at hv
      cases hv
theorem cf_litS {D : cd_D} {c i : Nat} (hc : c < 64) (hi : i < 64) : decide (ce_nr D c 64 ≤ i + 1) = (decide (ce_nr D c 64 ≤ i) || cf_sd (fun e => decide (ce_nr D e 64 ≤ i)) c) := by
  rw [Bool.eq_iff_iff, Bool.or_eq_true, decide_eq_true_eq, decide_eq_true_eq, cf_sd_ad hc]
  refine ⟨fun h => ?_, fun h => ?_⟩
  · rcases (cf_nr_le 64).mp h with h | ⟨d, h1, h2, h3⟩
    · omega
    · by_cases h4 : cd_stp c d ≤ i
      · exact Or.inl ((cf_nr_le 64).mpr (Or.inr ⟨d, h1, h2, h4⟩))
      · obtain ⟨e, e1, e2⟩ := cf_stp_dn (i := i) hc h1 (by omega)
        exact Or.inr ⟨e, e1, decide_eq_true ((cf_nr_le 64).mpr (Or.inr ⟨d, h1, h2, by omega⟩))⟩
  · rcases h with h | ⟨e, h1, h2⟩
    · omega
    · rw [decide_eq_true_eq] at h2
      rcases (cf_nr_le 64).mp h2 with h | ⟨d, h3, h4, h5⟩
      · omega
      · have := cf_stp_up (d := d) hc h1
        exact (cf_nr_le 64).mpr (Or.inr ⟨d, h3, h4, by omega⟩)
section CGM
variable {L : Nat} {w : Bool} {I : Nat → Nat → Int32} {J : Nat → Nat → Int64} {D : cd_D} {S : cd_S}
variable {p s z : Nat}
theorem cp_99 (hp : p = 66 ∨ p = 83) (hD : cd_okD D) (hP : cf_P D p I J) {g : Nat → Bool} {c0 m : Nat} (hc0 : c0 < 64) (g0 : g c0 = true) (hm : ce_nr D c0 64 = m) (hmin : ∀ c, c < 64 → g c = true → m ≤ ce_nr D c 64) : cd_c 99 [.ref p, .long (lN (ce_msk g 64))] (cd_mm L w I J) = some (some (.int (nI (D 0 16 - D 0 17 * m))), cd_mm L w I J) := by
  obtain ⟨-, d1, -, d16, d17⟩ := hD.1
  have hfin : ∀ i, i ≤ 100 → (if (0 : Int32) < (I p 16) - (I p 17) * nI i then (I p 16) - (I p 17) * nI i else 0) = nI (D 0 16 - D 0 17 * i) := fun i hi => by
    have hb : D 0 17 * i ≤ 20 * 100 := Nat.mul_le_mul d17 hi
    rw [hP.1.2.2.2.1, hP.1.2.2.2.2, pk_mul, cw_sub2, show (0 : Int32) = zI 0 from rfl]
    by_cases h : D 0 17 * i < D 0 16
    · rw [if_pos ((zI_lt (by decide) (by decide) (by omega) (by omega)).mpr (by omega)), show ((D 0 16 : Nat) : Int) - ((D 0 17 * i : Nat) : Int) = ((D 0 16 - D 0 17 * i : Nat) : Int) by omega, zI_n]
    · rw [if_neg (fun q => by
        have := (zI_lt (by decide) (by decide) (by omega) (by omega)).mp q
        omega), show D 0 16 - D 0 17 * i = 0 by omega]
      rfl
  refine cw_eq (cw_c (l := [.ref p, .long (lN (ce_msk g 64)), .null, .null, .null, .null, .null]) (by rcases hp with rfl | rfl <;> rfl) (by rcases hp with rfl | rfl <;> rfl) ?_)
  refine cw_m (fun _ => cd_s99_0 hp) ?_
  rw [cp_89 hp hP d1, cw_bl]
  refine cw_m (fun _ => cd_s99_2 hp) ?_
  rw [cf_notm (h := fun c => !ce_cov D c) (fun _ _ => rfl)]
  by_cases hz : lg_cmp (lN (ce_msk (fun c => !ce_cov D c) 64)) 0 = 0
  · rw [if_pos hz]
    have hz' := cf_mnull.mp hz
    have hm100 : m = 100 := by
      have h1 : ¬ ce_nr D c0 64 ≤ 99 := fun h => by
        rcases (cf_nr_le 64).mp h with h | ⟨d, h1, h2, _⟩
        · omega
        · have := hz' d h1
          rw [h2] at this
          cases this
      have h2 : ce_nr D c0 64 ≤ 100 := (cf_nr_le 64).mpr (Or.inl (Nat.le_refl _))
      omega
    refine cw_m (fun _ => cd_s99_15 hp) ?_
    rw [if_pos (show (0 : Int32) < 64 by decide), if_pos hz, show (100 : Int32) = nI 100 from rfl, hfin 100 (by decide), hm100]
    exact cw_ret ⟨rfl, rfl, rfl⟩
  · rw [if_neg hz]
    have hz' : ∃ d, d < 64 ∧ ce_cov D d = false := by
      refine Classical.byContradiction (fun q => hz (cf_mnull.mpr (fun c hc => ?_)))
      cases hv : ce_cov D c with
      | true => rfl
      | false => exact absurd ⟨c, hc, hv⟩ q
    obtain ⟨d0, hd0, hv0⟩ := hz'
    have hm14 : m ≤ 14 := by
      rw [← hm]
      exact (cf_nr_le 64).mpr (Or.inr ⟨d0, hd0, hv0, cd_stp_le hc0 hd0⟩)
    have go := cw_up (L := L) (w := w) (Q := fun v2 I2 J2 => v2 = some (.int (nI (D 0 16 - D 0 17 * m))) ∧ I2 = I ∧ J2 = J) (fun i (_ : Unit) => cd_go 99 15 [.ref p, .long (lN (ce_msk g 64)), .null, .long (lN (ce_msk (fun c => decide (ce_nr D c 64 ≤ i)) 64)), .null, .int (nI i), .int (nI i)] [] (cd_mm L w I J)) (fun i _ => i ≤ m) 64 ?_ ?_ 0 () (Nat.zero_le _) (Nat.zero_le _)
    · rw [cf_cong (f := fun c => decide (ce_nr D c 64 ≤ 0)) (h := fun c => !ce_cov D c) (fun c hc => cf_lit0 hc)] at go
      exact go
    · intro _ h
      omega
    · intro i _ hi h K
      refine cw_m (fun _ => cd_s99_15 hp) ?_
      rw [if_pos (show nI i < 64 from nI_lt (b := 64) hi (by decide)), if_neg (fun q => by
        have := cf_mnull.mp q d0 hd0
        rw [decide_eq_false_iff_not] at this
        exact this ((cf_nr_le 64).mpr (Or.inr ⟨d0, hd0, hv0, by rw [cf_stpr]; omega⟩))), cf_andm (h := fun c => decide (ce_nr D c 64 ≤ i) && g c) (fun _ _ => rfl)]
      by_cases he : lg_cmp (lN (ce_msk (fun c => decide (ce_nr D c 64 ≤ i) && g c) 64)) 0 = 0
      · rw [if_pos he, cp_91, cw_bl]
        refine cw_m (fun _ => cd_s99_31 hp) ?_
        rw [cf_or (h := fun c => decide (ce_nr D c 64 ≤ i + 1)) (fun c hc => cf_litS hc hi), nI_1]
        refine K () ?_
        have := cf_mnull.mp he c0 hc0
        rw [g0, Bool.and_true, decide_eq_false_iff_not, hm] at this
        omega
      · rw [if_neg he, hfin i (by omega)]
        have hne : ¬ ∀ c, c < 64 → (decide (ce_nr D c 64 ≤ i) && g c) = false := fun h => he (cf_mnull.mpr h)
        obtain ⟨c, hc⟩ := Classical.not_forall.mp hne
        obtain ⟨hc64, hcn⟩ := Classical.not_imp.mp hc
        have hcn : (decide (ce_nr D c 64 ≤ i) && g c) = true := by
          cases hq : (decide (ce_nr D c 64 ≤ i) && g c) with
          | true => rfl
          | false => exact absurd hq hcn
        rw [Bool.and_eq_true, decide_eq_true_eq] at hcn
        have := hmin c hc64 hcn.2
        have : i = m := by omega
        rw [this]
        exact cw_ret ⟨rfl, rfl, rfl⟩
end CGM
theorem cf_argmin {g : Nat → Bool} {v : Nat → Nat} : ∀ n, (∃ c, c < n ∧ g c = true) → ∃ c0, c0 < n ∧ g c0 = true ∧ ∀ c, c < n → g c = true → v c0 ≤ v c := by
  intro n
  induction n with
  | zero => intro ⟨c, h, _⟩; omega
  | succ n ih =>
    intro h
    by_cases hl : ∃ c, c < n ∧ g c = true
    · obtain ⟨c0, h1, h2, h3⟩ := ih hl
      cases hg : g n with
      | false =>
        refine ⟨c0, by omega, h2, fun c hc hgc => ?_⟩
        have : c ≠ n := fun q => by rw [q, hg] at hgc; cases hgc
        exact h3 c (by omega) hgc
      | true =>
        by_cases hv : v c0 ≤ v n
        · refine ⟨c0, by omega, h2, fun c hc hgc => ?_⟩
          by_cases hcn : c = n
          · rw [hcn]; exact hv
          · exact h3 c (by omega) hgc
        · refine ⟨n, by omega, hg, fun c hc hgc => ?_⟩
          by_cases hcn : c = n
          · rw [hcn]; exact Nat.le_refl _
          · have := h3 c (by omega) hgc
            omega
    · obtain ⟨c, h1, h2⟩ := h
      have hcn : c = n := by
        rcases Nat.lt_or_ge c n with q | q
        · exact absurd ⟨c, q, h2⟩ hl
        · omega
      subst hcn
      refine ⟨c, h1, h2, fun d hd hgd => ?_⟩
      by_cases hdc : d = c
      · rw [hdc]; exact Nat.le_refl _
      · exact absurd ⟨d, by omega, hgd⟩ hl
theorem cf_dk {D : cd_D} {P : Nat → Bool} {f v : Nat} (hv : ∀ c, c < 64 → ce_in P f c = true → ce_lit D c ≤ v) : ∀ n, n ≤ 64 → ce_dk D P f n ≤ v ∧ ∀ c, c < n → ce_in P f c = true → ce_lit D c ≤ ce_dk D P f n := by
  intro n
  induction n with
  | zero => intro _; exact ⟨Nat.zero_le _, fun c h => by omega⟩
  | succ n ih =>
    intro hn
    obtain ⟨h1, h2⟩ := ih (by omega)
    have e : ce_dk D P f (n + 1) = if ce_dk D P f n < (if ce_in P f n then ce_lit D n else 0) then (if ce_in P f n then ce_lit D n else 0) else ce_dk D P f n := rfl
    rw [e]
    cases hq : ce_in P f n with
    | false =>
      rw [if_neg (show ¬ false = true by decide), if_neg (Nat.not_lt_zero _)]
      refine ⟨h1, fun c hc hin => ?_⟩
      have : c ≠ n := fun q => by rw [q, hq] at hin; cases hin
      exact h2 c (by omega) hin
    | true =>
      rw [if_pos rfl]
      have hvn := hv n (by omega) hq
      refine ⟨by split <;> omega, fun c hc hin => ?_⟩
      by_cases hcn : c = n
      · subst hcn
        split <;> omega
      · have := h2 c (by omega) hin
        split <;> omega
theorem cf_height_un {D : cd_D} {S : cd_S} {c : Nat} (h : ce_cov D c = false) : cd_height D S c = -1 := by
  have hu : ∀ k, k < D 0 1 → cd_und D k c = false := fun k hk => by
    cases hq : cd_und D k c with
    | false => rfl
    | true =>
      have : ce_cov D c = true := ce_any_t.mpr ⟨k, hk, hq⟩
      rw [h] at this
      cases this
  have key : ∀ n, n ≤ D 0 1 → cd_hi D S c n = -1 := by
    intro n
    induction n with
    | zero => intro _; rfl
    | succ n ih =>
      intro hn
      unfold cd_hi
      rw [hu n (by omega), ih (by omega), if_neg (show ¬ false = true by decide), if_neg (Int.lt_irrefl _)]
  exact key _ (Nat.le_refl _)
theorem cf_cnt_pow {f : Nat} (h : f < 64) : fa_cnt (fun k => (2 ^ f - 1).testBit k) 64 = f := by
  have e : (fun k => (2 ^ f - 1).testBit k) = (fun c => decide (c < f)) := funext fun k => by rw [Nat.testBit_two_pow_sub_one]
  rw [e]
  exact cf_cnt_lt 64 (by omega)
section CGN
variable {L : Nat} {w : Bool} {I : Nat → Nat → Int32} {J : Nat → Nat → Int64} {D : cd_D} {S : cd_S}
variable {Y : ce_Y} {P : Nat → Bool} {p s z : Nat}
theorem cf_bo_null : (lg_cmp (lN (ce_msk (cf_bo P (ce_gt P)) 64)) 0 = 0) ↔ ce_gt P = none := by
  rw [cf_mnull]
  cases hg : ce_gt P with
  | none => exact ⟨fun _ => rfl, fun _ _ _ => rfl⟩
  | some f =>
    obtain ⟨h1, h2, h3⟩ := ce_gt_b hg
    refine ⟨fun h => ?_, fun h => by cases h⟩
    have : ce_in P f f = false := h f h1
    unfold ce_in at this
    rw [h2, h3, Bool.true_and, decide_eq_true rfl] at this
    cases this
theorem cp_96 : cd_c 96 [.long (lN (ce_msk (cf_bo P (ce_gt P)) 64))] (cd_mm L w I J) = some (some (.int (cd_oi (ce_gt P))), cd_mm L w I J) := by
  refine cw_eq (cw_c (l := [_, _]) rfl rfl ?_)
  refine cw_m (fun _ => cd_s96_0) ?_
  by_cases hz : lg_cmp (lN (ce_msk (cf_bo P (ce_gt P)) 64)) 0 = 0
  · rw [if_pos hz, cf_bo_null.mp hz]
    refine cw_m (fun _ => cd_s96_13) ?_
    exact cw_ret ⟨rfl, rfl, rfl⟩
  · rw [if_neg hz]
    cases hg : ce_gt P with
    | none => exact absurd (cf_bo_null.mpr hg) hz
    | some f =>
      obtain ⟨h1, h2, h3⟩ := ce_gt_b hg
      have hp : 0 < 2 ^ f := ce_2pos
      have hp2 : 2 ^ f < 2 ^ 64 := Nat.pow_lt_pow_right (by decide) h1
      rw [cf_least (f := cf_bo P (some f)) (k := f) h1 (by
        show ce_in P f f = true
        unfold ce_in
        rw [h2, h3, Bool.true_and, decide_eq_true rfl]) (fun j hj => by
        show ce_in P f j = false
        unfold ce_in
        cases hP : P j with
        | false => rfl
        | true =>
          rw [Bool.true_and]
          refine decide_eq_false (fun q => ?_)
          have := ce_lb_self (P := P) j
          omega), show (1 : Int64) = lN 1 from rfl, lN_sub (by omega), cp_93 (by omega), cf_cnt_pow h1, cw_bi]
      refine cw_m (fun _ => cd_s96_13) ?_
      exact cw_ret ⟨rfl, rfl, rfl⟩
/-- cells by which one comes in -/
def cf_dw (D : cd_D) (S : cd_S) (c : Nat) : Bool := !ce_cov D c && !(cd_thAt D S c).isSome
theorem cp_97 (hK : ce_ok D S Y) (hM : cf_M D S Y w I J) : cd_c 97 [.ref 2] (cd_mm L w I J) = some (some (.long (lN (ce_msk (cf_dw D S) 64))), cd_mm L w I J) := by
  refine cw_eq (cw_c (l := [_]) rfl rfl ?_)
  refine cw_m (fun _ => cd_s97_0) ?_
  rw [cp_89 (cf_ple w) hM.1.1 hK.1.1.2.1, cw_bl]
  refine cw_m (fun _ => cd_s97_3) ?_
  rw [hM.1.1.1.1, cp_24 (Or.inr (Or.inl rfl)) hK.1.1.1 hM.1.2.1.2.1 hK.2.1.1.1, cw_bl]
  refine cw_m (fun _ => cd_s97_11) ?_
  rw [cf_notm (h := fun c => !ce_cov D c) (fun _ _ => rfl), cf_notm (h := fun c => !(cd_thAt D S c).isSome) (fun c _ => by rw [cf_tk_th]), cf_andm (h := cf_dw D S) (fun _ _ => rfl)]
  exact cw_ret ⟨rfl, rfl, rfl⟩
theorem cf_dor {c : Nat} (hc : c < 64) : ce_dor D S c = cf_sd (cf_dw D S) c := by
  rw [Bool.eq_iff_iff, cf_sd_ad hc]
  unfold ce_dor
  rw [ce_any_t]
  refine ⟨fun ⟨v, hv, h⟩ => ?_, fun ⟨d, ⟨v, hv, h1⟩, h2⟩ => ⟨v, hv, ?_⟩⟩
  · cases hb : ce_bes c v with
    | none => rw [hb] at h; cases h
    | some d =>
      rw [hb] at h
      refine ⟨d, ⟨v, hv, hb⟩, ?_⟩
      unfold cf_dw
      replace h : ((cd_thAt D S d).isNone && !ce_cov D d) = true := h
      rw [Bool.and_eq_true] at h ⊢
      refine ⟨h.2, ?_⟩
      cases ht : cd_thAt D S d with
      | none => rfl
      | some t => rw [ht] at h; exact absurd h.1 Bool.false_ne_true
  · rw [h1]
    show ((cd_thAt D S d).isNone && !ce_cov D d) = true
    unfold cf_dw at h2
    rw [Bool.and_eq_true] at h2 ⊢
    refine ⟨?_, h2.1⟩
    cases ht : cd_thAt D S d with
    | none => rfl
    | some t => rw [ht] at h2; exact absurd h2.2 Bool.false_ne_true
theorem cp_98 : cd_c 98 [.long (lN (ce_msk (cf_bo P (ce_gt P)) 64)), .long (lN (ce_msk (cf_dw D S) 64))] (cd_mm L w I J) = some (some (.int (nI (ce_drs D S P))), cd_mm L w I J) := by
  refine cw_eq (cw_c (l := [_, _, _, _]) rfl rfl ?_)
  refine cw_m (fun _ => cd_s98_0) ?_
  rw [cp_91, cw_bl]
  refine cw_m (fun _ => cd_s98_3) ?_
  rw [cf_andm (h := fun c => cf_bo P (ce_gt P) c && cf_sd (cf_dw D S) c) (fun _ _ => rfl), cp_93m, cw_bi]
  refine cw_m (fun _ => cd_s98_5) ?_
  refine cw_ret ⟨?_, rfl, rfl⟩
  have e : fa_cnt (fun c => cf_bo P (ce_gt P) c && cf_sd (cf_dw D S) c) 64 = ce_drs D S P := by
    unfold ce_drs
    cases ce_gt P with
    | none => exact cf_cnt0
    | some f => exact ce_cnt_eq (fun c hc => by
        show (ce_in P f c && cf_sd (cf_dw D S) c) = (ce_in P f c && ce_dor D S c)
        rw [cf_dor hc])
  rw [e]
theorem cp_100 (hK : ce_ok D S Y) (hM : cf_M D S Y w I J) : cd_c 100 [.ref 2, .long (lN (ce_msk (cf_bo P (ce_gt P)) 64))] (cd_mm L w I J) = some (some (.int (zI (ce_drk D P))), cd_mm L w I J) := by
  refine cw_eq (cw_c (l := [_, _, _]) rfl rfl ?_)
  refine cw_m (fun _ => cd_s100_0) ?_
  by_cases hz : lg_cmp (lN (ce_msk (cf_bo P (ce_gt P)) 64)) 0 = 0
  · rw [if_pos hz]
    refine cw_m (fun _ => cd_s100_10) ?_
    unfold ce_drk
    rw [cf_bo_null.mp hz]
    exact cw_ret ⟨rfl, rfl, rfl⟩
  · rw [if_neg hz]
    cases hg : ce_gt P with
    | none => exact absurd (cf_bo_null.mpr hg) hz
    | some f =>
      obtain ⟨h1, h2, h3⟩ := ce_gt_b hg
      obtain ⟨c0, k1, k2, k3⟩ := cf_argmin (g := ce_in P f) (v := fun c => ce_nr D c 64) 64 ⟨f, h1, by
        unfold ce_in
        rw [h2, h3, Bool.true_and, decide_eq_true rfl]⟩
      have hv : ∀ c, c < 64 → ce_in P f c = true → ce_lit D c ≤ ce_lit D c0 := fun c hc hin => Nat.sub_le_sub_left (Nat.mul_le_mul_left _ (k3 c hc hin)) _
      have hdk := cf_dk hv 64 (Nat.le_refl _)
      have e : ce_drk D P = ((D 0 16 - D 0 17 * ce_nr D c0 64 : Nat) : Int) := by
        unfold ce_drk
        rw [hg]
        show ((ce_dk D P f 64 : Nat) : Int) = _
        rw [show ce_dk D P f 64 = D 0 16 - D 0 17 * ce_nr D c0 64 from Nat.le_antisymm hdk.1 (hdk.2 c0 k1 k2)]
      rw [cp_99 (g := cf_bo P (some f)) (cf_ple w) hK.1 hM.1.1 k1 k2 rfl k3, cw_bi]
      refine cw_m (fun _ => cd_s100_10) ?_
      rw [e, zI_n]
      exact cw_ret ⟨rfl, rfl, rfl⟩
theorem cp_90 (hp : p = 66 ∨ p = 83) (hs : s = 22 ∨ s = 45) (hz : z = 14 ∨ z = 38) (hD : cd_okD D) (hS : cd_okS D S) (hP : cf_P D p I J) (hQ : cf_S D S s I) (hV : cf_V z (cf_H D S) I) {h : Nat} (h1 : 1 ≤ h) (h2 : h ≤ 20) : cd_c 90 [.ref z, .ref p, .ref s, .int (nI h)] (cd_mm L w I J) = some (some (.long (lN (ce_msk (ce_rm D S h) 64))), cd_mm L w I J) := by
  refine cw_eq (cw_c (l := [.ref z, .ref p, .ref s, .int (nI h), .null, .null, .null, .null, .null]) (by rcases hp with rfl | rfl <;> rcases hs with rfl | rfl <;> rcases hz with rfl | rfl <;> rfl) (by rcases hp with rfl | rfl <;> rcases hs with rfl | rfl <;> rcases hz with rfl | rfl <;> rfl) ?_)
  refine cw_m (fun _ => cd_s90_0 hp hs hz) ?_
  rw [cp_89 hp hP hD.1.2.1, cw_bl]
  refine cw_m (fun _ => cd_s90_2 hp hs hz) ?_
  rw [hP.1.1, cp_24 (by omega) hD.1.1 hQ.2.1 hS.1, cw_bl]
  refine cw_m (fun _ => cd_s90_6 hp hs hz) ?_
  rw [cf_notm (h := fun c => !(cd_thAt D S c).isSome) (fun c _ => by rw [cf_tk_th]), cf_andm (h := fun c => ce_cov D c && !(cd_thAt D S c).isSome) (fun _ _ => rfl)]
  have go := cw_up (L := L) (w := w) (Q := fun v2 I2 J2 => v2 = some (.long (lN (ce_msk (ce_rm D S h) 64))) ∧ I2 = I ∧ J2 = J) (fun i (_ : Unit) => cd_go 90 14 [.ref z, .ref p, .ref s, .int (nI h), .long (lN (ce_msk (fun c => ce_cov D c && !(cd_thAt D S c).isSome) 64)), .null, .long (lN (ce_msk (fun c => decide (c < i) && ce_rm D S h c) 64)), .null, .int (nI i)] [] (cd_mm L w I J)) (fun _ _ => True) 64 ?_ ?_ 0 () (Nat.zero_le _) trivial
  · rw [cf_cong (f := fun c => decide (c < 0) && ce_rm D S h c) (h := fun _ => false) (fun c _ => by
      show (decide (c < 0) && ce_rm D S h c) = false
      rw [decide_eq_false (Nat.not_lt_zero c), Bool.false_and]), cf_msk0] at go
    exact go
  · intro _ _
    refine cw_m (fun _ => cd_s90_14 hp hs hz) ?_
    rw [if_neg (show ¬ nI 64 < 64 by decide)]
    refine cw_ret ⟨?_, rfl, rfl⟩
    rw [cf_cong (f := fun c => decide (c < 64) && ce_rm D S h c) (h := ce_rm D S h) (fun c hc => by
      show (decide (c < 64) && ce_rm D S h c) = ce_rm D S h c
      rw [decide_eq_true hc, Bool.true_and])]
  · intro i _ hi _ K
    have hb := cf_bitL (cf_und_lt (fun c => ce_cov D c && !(cd_thAt D S c).isSome)) hi
    rw [cf_und_tb hi] at hb
    have hh := cd_hi_b hD hS hi (D 0 1)
    replace hh : -200 ≤ cd_height D S i ∧ cd_height D S i ≤ 200 := hh
    have skip : ce_rm D S h i = false → lN (ce_msk (fun c => decide (c < i) && ce_rm D S h c) 64) = lN (ce_msk (fun c => decide (c < i + 1) && ce_rm D S h c) 64) := fun hr => cf_cong (fun c _ => by
      show (decide (c < i) && ce_rm D S h c) = (decide (c < i + 1) && ce_rm D S h c)
      by_cases hci : c = i
      · rw [hci, hr, Bool.and_false, Bool.and_false]
      · rw [show decide (c < i) = decide (c < i + 1) from decide_eq_decide.mpr (by omega)])
    refine cw_m (fun _ => cd_s90_14 hp hs hz) ?_
    rw [if_pos (show nI i < 64 from nI_lt (b := 64) hi (by decide)), nI_1]
    cases hf : (ce_cov D i && !(cd_thAt D S i).isSome) with
    | false =>
      rw [if_pos (hb.mpr hf), skip]
      · exact K () trivial
      · unfold ce_rm
        cases hc : ce_cov D i with
        | false => rw [cf_height_un hc, decide_eq_false (by omega), Bool.false_and]
        | true =>
          rw [hc, Bool.true_and] at hf
          cases ht : cd_thAt D S i with
          | none => rw [ht] at hf; cases hf
          | some t => exact Bool.and_false _
    | true =>
      rw [if_neg (fun q => by rw [hb.mp q] at hf; cases hf), cp_72 hz hD hS hV hi, cw_bi]
      refine cw_m (fun _ => cd_s90_28 hp hs hz) ?_
      rw [nI_1]
      have hn : (cd_thAt D S i).isNone = true := by
        rw [Bool.and_eq_true] at hf
        cases ht : cd_thAt D S i with
        | none => rfl
        | some t => rw [ht] at hf; exact absurd hf.2 Bool.false_ne_true
      have hlt : (zI (cd_height D S i) < nI h) ↔ cd_height D S i < (h : Int) := by
        rw [← zI_n]
        exact zI_lt (by omega) (by omega) (by omega) (by omega)
      by_cases hl : cd_height D S i < (h : Int)
      · rw [if_pos (hlt.mpr hl), skip]
        · exact K () trivial
        · unfold ce_rm
          rw [decide_eq_false (by omega), Bool.false_and]
      · rw [if_neg (fun q => hl (hlt.mp q)), cf_or1 (h := fun c => decide (c < i + 1) && ce_rm D S h c) hi (fun c _ => ?_)]
        · exact K () trivial
        · show (decide (c < i + 1) && ce_rm D S h c) = ((decide (c < i) && ce_rm D S h c) || decide (i = c))
          have hr : ce_rm D S h i = true := by
            unfold ce_rm
            rw [hn, Bool.and_true, decide_eq_true (by omega)]
          by_cases hci : c = i
          · rw [hci, hr, decide_eq_true (show i < i + 1 by omega), decide_eq_true rfl, Bool.or_true]
            rfl
          · rw [show decide (c < i) = decide (c < i + 1) from decide_eq_decide.mpr (by omega), decide_eq_false (show ¬ i = c by omega), Bool.or_false]
end CGN
