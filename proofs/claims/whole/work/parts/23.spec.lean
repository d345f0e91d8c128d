/-! ===== dens and states, and how the memory holds them ===== -/
/-- a den: row 0 counts and light, rows 1 to 12 as a plan's arrays -/
abbrev cd_D : Type := Nat → Nat → Nat
/-- a state: row 0 the masks of what lies and what holds (1, 2), row 1 cells, 2 kinds, 3 books -/
abbrev cd_S : Type := Nat → Nat → Nat
def cd_okD (D : cd_D) : Prop := (D 0 0 ≤ 8 ∧ D 0 1 ≤ 3 ∧ D 0 2 ≤ 12 ∧ D 0 16 ≤ 99 ∧ D 0 17 ≤ 20) ∧ (∀ t, t < D 0 0 → 1 ≤ D 1 t ∧ D 1 t ≤ 20 ∧ 1 ≤ D 2 t ∧ D 2 t ≤ 99 ∧ D 3 t ≤ 99 ∧ 1 ≤ D 4 t ∧ D 4 t ≤ 9) ∧ (∀ k, k < D 0 1 → D 5 k < 64 ∧ 1 ≤ D 6 k ∧ D 5 k / 8 + D 6 k ≤ 8 ∧ 1 ≤ D 7 k ∧ D 5 k % 8 + D 7 k ≤ 8 ∧ 1 ≤ D 8 k ∧ D 8 k ≤ 9 ∧ 1 ≤ D 9 k ∧ D 9 k ≤ 9) ∧ ∀ k, k < D 0 2 → D 11 k < D 0 1 ∧ D 12 k < D 0 0
def cd_okS (D : cd_D) (S : cd_S) : Prop := (∀ t, t < D 0 0 → S 1 t < 64) ∧ S 0 1 < 2 ^ D 0 0 ∧ S 0 2 < 2 ^ D 0 2 ∧ ∀ k, k < D 0 2 → S 2 k ≤ 4 ∧ S 3 k ≤ 99
def cd_und (D : cd_D) (k c : Nat) : Bool := (decide (D 5 k / 8 ≤ c / 8) && decide (c / 8 < D 5 k / 8 + D 6 k)) && (decide (D 5 k % 8 ≤ c % 8) && decide (c % 8 < D 5 k % 8 + D 7 k))
/-- the reference's cells hold a den -/
def cd_refD (D : cd_D) (I : Nat → Nat → Int32) : Prop := (I 100 0 = nI (D 0 0) ∧ I 100 7 = nI (D 0 1) ∧ I 100 9 = nI (D 0 2) ∧ I 100 15 = nI (D 0 16) ∧ I 100 16 = nI (D 0 17)) ∧ (∀ t, t < D 0 0 → I 102 t = nI (D 1 t) ∧ I 103 t = nI (D 2 t) ∧ I 104 t = nI (D 3 t) ∧ I 105 t = nI (D 4 t)) ∧ (∀ k, k < D 0 1 → I 107 (5 * k) = nI (D 5 k) ∧ I 107 (5 * k + 1) = nI (D 6 k) ∧ I 107 (5 * k + 2) = nI (D 7 k) ∧ I 107 (5 * k + 3) = nI (D 8 k) ∧ I 107 (5 * k + 4) = nI (D 9 k)) ∧ ∀ k, k < D 0 2 → I 108 k = nI (D 11 k) ∧ I 109 k = nI (D 12 k)
/-- the reference's cells hold a state -/
def cd_refS (D : cd_D) (S : cd_S) (I : Nat → Nat → Int32) : Prop := (∀ t, t < D 0 0 → I 101 t = nI (S 1 t) ∧ I 106 t = cd_tf ((S 0 1).testBit t)) ∧ ∀ k, k < D 0 2 → I 110 k = nI (S 2 k) ∧ I 111 k = nI (S 3 k) ∧ I 112 k = cd_tf ((S 0 2).testBit k)
theorem cd_inN {i n : Nat} (h : i < n) (hn : n < 2 ^ 31) : cd_in (nI i) n = true := decide_eq_true (nI_in h hn)
theorem cd_win {a b d : Nat} (ha : a < 2 ^ 30) (hb : b < 2 ^ 30) (h1 : 1 ≤ d) (hd : d < 2 ^ 30) : (decide ((0 : Int64) ≤ (nI a - nI b).toInt64) && decide ((nI a - nI b).toInt64 ≤ (nI d - 1).toInt64)) = (decide (b ≤ a) && decide (a < b + d)) := by
  obtain ⟨e, rfl⟩ : ∃ e, d = e + 1 := ⟨d - 1, by omega⟩
  rw [nI_pred, show (0 : Int64) = (0 : Int32).toInt64 from rfl]
  simp only [fa_wide_le]
  have h2 := pk_sub_toInt ha hb
  have h3 : (nI e).toInt = (e : Int) := nI_toInt (by omega)
  have e1 : ((0 : Int32) ≤ nI a - nI b) ↔ b ≤ a := by
    rw [fa_le, h2, show (0 : Int32).toInt = 0 from rfl]
    omega
  have e2 : (nI a - nI b ≤ nI e) ↔ a < b + (e + 1) := by
    rw [fa_le, h2, h3]
    omega
  rw [decide_eq_decide.mpr e1, decide_eq_decide.mpr e2]
section CDM
variable {L : Nat} {w : Bool} {I : Nat → Nat → Int32} {J : Nat → Nat → Int64} {D : cd_D} {S : cd_S}
theorem cp_150 (hD : cd_okD D) (hR : cd_refD D I) {k c : Nat} (hk : k < D 0 1) (hc : c < 64) : cd_c 150 [.ref 100, .int (nI k), .int (nI c)] (cd_mm L w I J) = some (some (.int (cd_tf (cd_und D k c))), cd_mm L w I J) := by
  have h3 := hD.1.2.1
  obtain ⟨d5, d6, d56, d7, d57, -⟩ := hD.2.2.1 k hk
  obtain ⟨r5, r6, r7, -⟩ := hR.2.2.1 k hk
  have q0 : (5 : Int32) * nI k = nI (5 * k) := by rw [fa_lit, pk_mul]
  have key : cd_c 149 [.ref 107, .int (nI k), .int (nI c)] (cd_mm L w I J) = some (some (.int (cd_tf (cd_und D k c))), cd_mm L w I J) := by
    refine cd_c_of (l := [.ref 107, .int (nI k), .int (nI c), .null]) rfl rfl (cd_s149_0 (Or.inl rfl) ?_)
    have q1 : nI (5 * k) + 1 = nI (5 * k + 1) := nI_1 _
    have q2 : nI (5 * k) + 2 = nI (5 * k + 2) := nI_add _ 2
    rw [q0, q1, if_pos (cd_inN (by omega) (by decide)), if_pos (cd_inN (by omega) (by decide)), nI_clamp (by omega), nI_clamp (by omega), r5, r6]
    have v1 : nI c / 8 - nI (D 5 k) / 8 = nI (c / 8) - nI (D 5 k / 8) := by
      rw [show (8 : Int32) = nI 8 from rfl, pk_div (by omega) (by decide) (by decide), pk_div (by omega) (by decide) (by decide)]
    have v2 : (nI c - nI c / 8 * 8) - (nI (D 5 k) - nI (D 5 k) / 8 * 8) = nI (c % 8) - nI (D 5 k % 8) := by
      rw [show (8 : Int32) = nI 8 from rfl, pk_rem (by omega) (by decide) (by decide), pk_rem (by omega) (by decide) (by decide)]
    refine cd_ci_s.mpr ⟨_, _, cp_138 _ _ _, cd_s149_26 (Or.inl rfl) ?_⟩
    rw [v1, cd_win (by omega) (by omega) d6 (by omega), v2, q0, q2, if_pos (cd_inN (by omega) (by decide)), nI_clamp (by omega), r7]
    unfold cd_und
    cases hA : decide (D 5 k / 8 ≤ c / 8) && decide (c / 8 < D 5 k / 8 + D 6 k) with
    | false => rfl
    | true =>
      refine (if_neg (show ¬ cd_tf true = 0 by decide)).trans ?_
      refine cd_ci_s.mpr ⟨_, _, cp_138 _ _ _, cd_s149_47 (Or.inl rfl) ?_⟩
      rw [cd_win (by omega) (by omega) d7 (by omega), Bool.true_and]
      cases decide (D 5 k % 8 ≤ c % 8) && decide (c % 8 < D 5 k % 8 + D 7 k) with
      | false => rfl
      | true => rfl
  refine cd_c_of (l := [.ref 100, .int (nI k), .int (nI c)]) rfl rfl (cd_s150_0 (cd_ci_s.mpr ⟨_, _, key, cd_s150_5 ?_⟩))
  rw [if_pos (cd_tf_and _)]
end CDM
