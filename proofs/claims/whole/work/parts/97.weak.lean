/-! ===== the class: the weakest, by halves ===== -/
theorem cf_fst_any {p : Nat → Bool} : ∀ n i, (ce_fst p n i).isSome = true ↔ ∃ k, i ≤ k ∧ k < i + n ∧ p k = true := by
  intro n i
  cases h : ce_fst p n i with
  | none =>
    refine ⟨fun q => (by cases q), fun ⟨k, h1, h2, h3⟩ => ?_⟩
    rw [ce_fst_none h k h1 h2] at h3
    cases h3
  | some k =>
    obtain ⟨h1, h2, h3, _⟩ := ce_fst_some h
    exact ⟨fun _ => ⟨k, h1, h2, h3⟩, fun _ => rfl⟩
theorem cf_next_some {D : cd_D} {S : cd_S} {o : Option Nat} {b : Nat} : (ce_next D S o b).isSome = true ↔ (∃ k, k < D 0 2 ∧ ce_n0 D S o b k = true) ∨ (∃ t, t < D 0 0 ∧ ce_n1 D S o b t = true) ∨ ∃ t, t < D 0 0 ∧ ce_n2 D S o b t = true := by
  have f0 := cf_fst_any (p := ce_n0 D S o b) (D 0 2) 0
  have f1 := cf_fst_any (p := ce_n1 D S o b) (D 0 0) 0
  have f2 := cf_fst_any (p := ce_n2 D S o b) (D 0 0) 0
  simp only [Nat.zero_le, true_and, Nat.zero_add] at f0 f1 f2
  rw [← f0, ← f1, ← f2]
  unfold ce_next
  cases h0 : ce_fst (ce_n0 D S o b) (D 0 2) 0 with
  | some k => exact ⟨fun _ => Or.inl rfl, fun _ => rfl⟩
  | none =>
    cases h1 : ce_fst (ce_n1 D S o b) (D 0 0) 0 with
    | some k => exact ⟨fun _ => Or.inr (Or.inl rfl), fun _ => rfl⟩
    | none =>
      cases h2 : ce_fst (ce_n2 D S o b) (D 0 0) 0 with
      | some k => exact ⟨fun _ => Or.inr (Or.inr rfl), fun _ => rfl⟩
      | none =>
        refine ⟨fun q => (by cases q), fun q => ?_⟩
        rcases q with q | q | q <;> cases q
/-- what a bump does, each stronger one does too -/
theorem cf_next_up {D : cd_D} {S : cd_S} {o : Option Nat} {b c : Nat} (h : b ≤ c) (hs : (ce_next D S o b).isSome = true) : (ce_next D S o c).isSome = true := by
  have hm : ∀ x, ce_bmp o b x ≤ ce_bmp o c x := fun x => by
    unfold ce_bmp
    split
    · exact h
    · exact Nat.le_refl 0
  rw [cf_next_some] at hs ⊢
  rcases hs with ⟨k, hk, h1⟩ | ⟨t, ht, h1⟩ | ⟨t, ht, h1⟩
  · refine Or.inl ⟨k, hk, ?_⟩
    have := hm (D 12 k)
    unfold ce_n0 ce_giv at h1 ⊢
    rw [Bool.and_eq_true, Bool.and_eq_true, decide_eq_true_eq] at h1 ⊢
    exact ⟨h1.1, h1.2.1, by omega⟩
  · refine Or.inr (Or.inl ⟨t, ht, ?_⟩)
    have := hm t
    unfold ce_n1 at h1 ⊢
    rw [Bool.and_eq_true, decide_eq_true_eq] at h1 ⊢
    refine ⟨h1.1, Int.lt_of_lt_of_le h1.2 (Int.mul_le_mul_of_nonneg_right (by omega) (by omega))⟩
  · refine Or.inr (Or.inr ⟨t, ht, ?_⟩)
    have := hm t
    unfold ce_n2 at h1 ⊢
    rw [Bool.and_eq_true, decide_eq_true_eq] at h1 ⊢
    exact ⟨by omega, h1.2⟩
section CGH
variable {L : Nat} {w : Bool} {I : Nat → Nat → Int32} {J : Nat → Nat → Int64} {D : cd_D} {S : cd_S}
variable {Y : ce_Y}
theorem cf_weak_none {t : Nat} (h : (ce_next D S (some t) 999).isNone = true) : ce_weak D S t = none := by
  unfold ce_weak
  cases hq : ce_fst (fun b => (ce_next D S (some t) b).isSome) 1000 0 with
  | none => rfl
  | some b =>
    obtain ⟨h1, h2, h3, _⟩ := ce_fst_some hq
    have := cf_next_up (c := 999) (by omega) h3
    cases hn : ce_next D S (some t) 999 with
    | none => rw [hn] at this; cases this
    | some e => rw [hn] at h; cases h
theorem cf_weak_at {t m : Nat} (hm : m < 1000) (h1 : (ce_next D S (some t) m).isSome = true) (h0 : ∀ b, b < m → (ce_next D S (some t) b).isSome = false) : ce_weak D S t = some m := by
  unfold ce_weak
  cases hq : ce_fst (fun b => (ce_next D S (some t) b).isSome) 1000 0 with
  | none =>
    have := ce_fst_none hq m (by omega) (by omega)
    rw [h1] at this
    cases this
  | some b =>
    obtain ⟨g1, g2, g3, g4⟩ := ce_fst_some hq
    rcases Nat.lt_trichotomy b m with h | h | h
    · rw [h0 b h] at g3; cases g3
    · rw [h]
    · have := g4 m (by omega) h
      rw [h1] at this
      cases this
theorem cp_87n (hK : ce_ok D S Y) (hM : cf_M D S Y w I J) {x : Int32} (hx : ce_ix x (D 0 0) = false) : cw L w (cd_c 87 [.ref 2, .int x] (cd_mm L w I J)) (cf_post (.int (-1001)) D S Y w I) := by
  refine cw_c (l := [_, _, _, _]) rfl rfl ?_
  refine cw_m (fun _ => cd_s87_0) ?_
  rw [cp_49 hM.1.1 hK.1, cw_bi, hx]
  refine cw_m (fun _ => cd_s87_3) ?_
  rw [if_pos (show cd_tf false = 0 from rfl)]
  exact cw_ret ⟨rfl, hM, cf_fr.rf⟩
theorem cp_87 (hK : ce_ok D S Y) (hM : cf_M D S Y w I J) {t : Nat} (ht : t < D 0 0) : cw L w (cd_c 87 [.ref 2, .int (nI t)] (cd_mm L w I J)) (cf_post (.int (cd_oi (ce_weak D S t))) D S Y w I) := by
  have h8 := hK.1.1.1
  have ho : ∀ u, some t = some u → u < 2 ^ 31 := fun u h => by cases h; omega
  refine cw_c (l := [_, _, _, _]) rfl rfl ?_
  refine cw_m (fun _ => cd_s87_0) ?_
  rw [cp_49 hM.1.1 hK.1, cw_bi, ce_ix_n ht (by omega)]
  refine cw_m (fun _ => cd_s87_3) ?_
  rw [if_neg (show ¬ cd_tf true = 0 by decide)]
  refine cw_ci (cw_mono (cp_79p (o := some t) (b := 999) hK hM ho (by decide)) ?_)
  intro v I1 J1 ⟨hv, M1, f1⟩
  refine ⟨_, hv, ?_⟩
  refine cw_m (fun _ => cd_s87_15) ?_
  cases h9 : (ce_next D S (some t) 999).isNone with
  | true =>
    rw [if_neg (show ¬ cd_tf true = 0 by decide), cf_weak_none h9]
    exact cw_ret ⟨rfl, M1, f1⟩
  | false =>
    have hs9 : (ce_next D S (some t) 999).isSome = true := by
      cases hn : ce_next D S (some t) 999 with
      | none => rw [hn] at h9; cases h9
      | some e => rfl
    rw [if_pos (show cd_tf false = 0 from rfl)]
    refine cw_dn (fun j (y : Nat × (Nat → Nat → Int32) × (Nat → Nat → Int64)) => cd_go 87 22 [.ref 2, .int (nI t), .int (zI ((y.1 : Int) - 1)), .int (nI (2 ^ j / 2))] [] (cd_mm L w y.2.1 y.2.2)) (fun j y => cf_M D S Y w y.2.1 y.2.2 ∧ cf_fr I y.2.1 ∧ j ≤ 10 ∧ y.1 ≤ 999 ∧ (∀ b, b < y.1 → (ce_next D S (some t) b).isSome = false) ∧ ∀ b, b < 1000 → y.1 + 2 ^ j ≤ b + 1 → (ce_next D S (some t) b).isSome = true) ?_ ?_ 10 (0, I1, J1) ?_
    · intro ⟨m, I2, J2⟩ ⟨M2, f2, _, hm, hlo, hhi⟩
      replace hm : m ≤ 999 := hm
      replace hlo : ∀ b, b < m → (ce_next D S (some t) b).isSome = false := hlo
      replace hhi : ∀ b, b < 1000 → m + 2 ^ 0 ≤ b + 1 → (ce_next D S (some t) b).isSome = true := hhi
      show cw L w (cd_go 87 22 [.ref 2, .int (nI t), .int (zI ((m : Int) - 1)), .int (nI (2 ^ 0 / 2))] [] (cd_mm L w I2 J2)) _
      refine cw_m (fun _ => cd_s87_22) ?_
      rw [if_neg (show ¬ (0 : Int32) < nI (2 ^ 0 / 2) by decide), show (1 : Int32) = zI 1 from rfl, zI_add, show (m : Int) - 1 + 1 = (m : Int) by omega, zI_n, cf_weak_at (by omega) (hhi m (by omega) (by omega)) hlo]
      exact cw_ret ⟨rfl, M2, f2⟩
    · intro j ⟨m, I2, J2⟩ ⟨M2, f2, hj, hm, hlo, hhi⟩ K
      replace hj : j + 1 ≤ 10 := hj
      replace hm : m ≤ 999 := hm
      replace M2 : cf_M D S Y w I2 J2 := M2
      replace hlo : ∀ b, b < m → (ce_next D S (some t) b).isSome = false := hlo
      replace hhi : ∀ b, b < 1000 → m + 2 ^ (j + 1) ≤ b + 1 → (ce_next D S (some t) b).isSome = true := hhi
      have hp0 : 0 < 2 ^ j := ce_2pos
      have hp9 : 2 ^ j ≤ 512 := Nat.le_trans (Nat.pow_le_pow_right (by decide) (show j ≤ 9 by omega)) (by decide)
      have hp : 2 ^ (j + 1) = 2 * 2 ^ j := by rw [Nat.pow_succ]; omega
      show cw L w (cd_go 87 22 [.ref 2, .int (nI t), .int (zI ((m : Int) - 1)), .int (nI (2 ^ (j + 1) / 2))] [] (cd_mm L w I2 J2)) _
      rw [hp] at hhi ⊢
      rw [show 2 * 2 ^ j / 2 = 2 ^ j by omega]
      refine cw_m (fun _ => cd_s87_22) ?_
      generalize 2 ^ j = s at *
      rw [if_pos (show (0 : Int32) < nI s from nI_lt (a := 0) hp0 (by omega)), show nI s / 2 = nI (s / 2) from by rw [show (2 : Int32) = nI 2 from rfl]; exact pk_div (by omega) (by decide) (by decide), cw_znadd, show (999 : Int32) = zI 999 from rfl]
      by_cases hbig : (999 : Int) < (m : Int) - 1 + (s : Int)
      · rw [if_pos ((zI_lt (by decide) (by decide) (by omega) (by omega)).mpr hbig)]
        exact K (m, I2, J2) ⟨M2, f2, by omega, hm, hlo, fun b h1 h2 => by
          replace h2 : m + s ≤ b + 1 := h2
          omega⟩
      · rw [if_neg (fun q => hbig ((zI_lt (by decide) (by decide) (by omega) (by omega)).mp q))]
        obtain ⟨q, hq⟩ : ∃ q, m + s = q + 1 := ⟨m + s - 1, by omega⟩
        rw [show (m : Int) - 1 + (s : Int) = ((q : Nat) : Int) by omega, zI_n]
        refine cw_ci (cw_mono (cp_79p (o := some t) (b := q) hK M2 ho (by omega)) ?_)
        intro v I3 J3 ⟨hv, M3, f3⟩
        refine ⟨_, hv, ?_⟩
        refine cw_m (fun _ => cd_s87_40) ?_
        rw [show nI s / 2 = nI (s / 2) from by rw [show (2 : Int32) = nI 2 from rfl]; exact pk_div (by omega) (by decide) (by decide)]
        cases hn : ce_next D S (some t) q with
        | some e =>
          rw [if_pos (show cd_tf (some e).isNone = 0 from rfl)]
          exact K (m, I3, J3) ⟨M3, f2.tr f3, by omega, hm, hlo, fun b h1 h2 => by
            replace h2 : m + s ≤ b + 1 := h2
            exact cf_next_up (b := q) (by omega) (by rw [hn]; rfl)⟩
        | none =>
          rw [if_neg (show ¬ cd_tf (none : Option (Nat × Nat)).isNone = 0 by decide), cw_znadd]
          have hlo2 : ∀ b, b < q + 1 → (ce_next D S (some t) b).isSome = false := fun b hb => by
            cases hb2 : (ce_next D S (some t) b).isSome with
            | false => rfl
            | true =>
              have := cf_next_up (c := q) (by omega) hb2
              rw [hn] at this
              cases this
          have hq999 : q ≠ 999 := fun h => by
            subst h
            rw [hn] at hs9
            cases hs9
          have := K (m + s, I3, J3) ⟨M3, f2.tr f3, by omega, by show m + s ≤ 999; omega, fun b hb => hlo2 b (by replace hb : b < m + s := hb; omega), fun b h1 h2 => by
            replace h2 : m + s + s ≤ b + 1 := h2
            exact hhi b h1 (by omega)⟩
          rw [show (m : Int) - 1 + (s : Int) = ((m + s : Nat) : Int) - 1 by omega]
          exact this
    · refine ⟨M1, f1, Nat.le_refl _, Nat.zero_le _, fun b hb => absurd hb (Nat.not_lt_zero b), fun b h1 h2 => ?_⟩
      replace h2 : 0 + 2 ^ 10 ≤ b + 1 := h2
      omega
end CGH
