/-! ===== holds upwards against holds downwards ===== -/
/-- of the first n holds the best that lifts cloth j at c: the least of the highest -/
def ce_ca (D : cd_D) (S : cd_S) (j c : Nat) : Nat → Option (Nat × Int)
  | 0 => none
  | n + 1 => if cd_held S n && Nat.beq (D 11 n) j then (match ce_ca D S j c n with
    | none => some (n, cd_hby D S n c)
    | some x => if x.2 < cd_hby D S n c then some (n, cd_hby D S n c) else some x) else ce_ca D S j c n
theorem ce_lr_ca {D : cd_D} {S : cd_S} {j c : Nat} : ∀ (n : Nat) (x : Option Nat × Int), cd_lr D S j c n x = match ce_ca D S j c n with
    | none => x
    | some y => if x.2 ≤ y.2 then (some y.1, y.2) else x := by
  intro n
  induction n with
  | zero => intro x; rfl
  | succ n ih =>
    intro x
    unfold cd_lr ce_ca
    rw [ih]
    cases hc : (cd_held S n && Nat.beq (D 11 n) j) with
    | false => simp only [Bool.false_and, Bool.false_eq_true, if_false]
    | true =>
      simp only [Bool.true_and, if_true, decide_eq_true_eq]
      cases ce_ca D S j c n with
      | none => rfl
      | some y =>
        dsimp only
        by_cases h1 : x.2 ≤ cd_hby D S n c
        · rw [if_pos h1]
          by_cases h2 : y.2 < cd_hby D S n c
          · rw [if_pos h2]
            dsimp only
            rw [if_neg (by omega), if_pos h1]
          · rw [if_neg h2]
            dsimp only
            rw [if_pos (by omega), if_pos (by omega)]
        · rw [if_neg h1]
          by_cases h2 : y.2 < cd_hby D S n c
          · rw [if_pos h2]
            dsimp only
            rw [if_neg (by omega), if_neg h1]
          · rw [if_neg h2]
theorem ce_ca_lt {D : cd_D} {S : cd_S} {j c : Nat} : ∀ {n : Nat} {y : Nat × Int}, ce_ca D S j c n = some y → y.1 < n ∧ D 11 y.1 = j ∧ cd_held S y.1 = true ∧ y.2 = cd_hby D S y.1 c := by
  intro n
  induction n with
  | zero => intro y h; cases h
  | succ n ih =>
    intro y h
    unfold ce_ca at h
    cases hc : (cd_held S n && Nat.beq (D 11 n) j) with
    | false =>
      rw [hc] at h
      obtain ⟨a, b⟩ := ih h
      exact ⟨by omega, b⟩
    | true =>
      rw [hc, if_pos rfl] at h
      rw [Bool.and_eq_true] at hc
      have hj := Nat.eq_of_beq_eq_true hc.2
      cases hq : ce_ca D S j c n with
      | none =>
        rw [hq] at h
        cases h
        exact ⟨Nat.lt_succ_self _, hj, hc.1, rfl⟩
      | some x =>
        rw [hq] at h
        dsimp only at h
        split at h
        · cases h
          exact ⟨Nat.lt_succ_self _, hj, hc.1, rfl⟩
        · cases h
          obtain ⟨a, b⟩ := ih hq
          exact ⟨by omega, b⟩
/-- what the drop makes of it -/
theorem ce_leans_ca {D : cd_D} {S : cd_S} (j c : Nat) : cd_leans D S j c = match ce_ca D S j c (D 0 2) with
    | none => none
    | some y => if (cd_gnd D S c : Int) ≤ y.2 then some y.1 else none := by
  unfold cd_leans
  rw [ce_lr_ca]
  cases ce_ca D S j c (D 0 2) with
  | none => rfl
  | some y =>
    dsimp only
    split <;> rfl
theorem ce_hangs_ca {D : cd_D} {S : cd_S} (j c : Nat) : cd_hangs D S j c = match ce_ca D S j c (D 0 2) with
    | none => (cd_gnd D S c : Int)
    | some y => if (cd_gnd D S c : Int) ≤ y.2 then y.2 else (cd_gnd D S c : Int) := by
  unfold cd_hangs
  rw [ce_leans_ca]
  cases hq : ce_ca D S j c (D 0 2) with
  | none => rfl
  | some y =>
    dsimp only
    by_cases h : (cd_gnd D S c : Int) ≤ y.2
    · rw [if_pos h, if_pos h]
      exact (ce_ca_lt hq).2.2.2.symm
    · rw [if_neg h, if_neg h]
