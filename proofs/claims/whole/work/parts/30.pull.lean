/-! ===== the reference: draws, pulls ===== -/
def ce_abs (z : Int) : Int := if z < 0 then -z else z
def ce_max (a b : Int) : Int := if b < a then a else b
theorem ce_absI {z : Int} (h1 : -(2 : Int) ^ 30 ≤ z) (h2 : z < (2 : Int) ^ 30) : (if zI z < 0 then -(zI z) else zI z) = zI (ce_abs z) := by
  unfold ce_abs
  have e : (0 : Int32) = zI 0 := rfl
  have hl : zI z < 0 ↔ z < 0 := by rw [e]; exact zI_lt (by omega) (by omega) (by decide) (by decide)
  by_cases h : z < 0
  · rw [if_pos (hl.mpr h), if_pos h]
    exact (Int32.ofInt_neg z).symm
  · rw [if_neg (fun q => h (hl.mp q)), if_neg h]
theorem ce_abs_b {z b : Int} (h1 : -b ≤ z) (h2 : z ≤ b) : 0 ≤ ce_abs z ∧ ce_abs z ≤ b := by
  unfold ce_abs
  split <;> omega
/-- a sum over the first n -/
def ce_sum (f : Nat → Int) : Nat → Int
  | 0 => 0
  | n + 1 => ce_sum f n + f n
theorem ce_sum_cong {f g : Nat → Int} : ∀ n, (∀ k, k < n → f k = g k) → ce_sum f n = ce_sum g n := by
  intro n
  induction n with
  | zero => intro _; rfl
  | succ n ih =>
    intro h
    unfold ce_sum
    rw [ih (fun k hk => h k (by omega)), h n (by omega)]
theorem ce_sum_b {f : Nat → Int} {b : Int} : ∀ n, (∀ k, k < n → -b ≤ f k ∧ f k ≤ b) → -((n : Int) * b) ≤ ce_sum f n ∧ ce_sum f n ≤ (n : Int) * b := by
  intro n
  induction n with
  | zero => intro _; unfold ce_sum; omega
  | succ n ih =>
    intro h
    have h1 := ih (fun k hk => h k (by omega))
    have h2 := h n (by omega)
    unfold ce_sum
    rw [show ((n + 1 : Nat) : Int) * b = (n : Int) * b + b by rw [Int.natCast_add, Int.add_mul]; omega]
    omega
/-- the sum of f over the holding holds of a thing -/
def ce_pull (D : cd_D) (S : cd_S) (f : Nat → Int) (t : Nat) : Int := ce_sum (fun k => if cd_held S k && Nat.beq (D 12 k) t then f k else 0) (D 0 2)
section CDS
variable {L : Nat} {w : Bool} {I : Nat → Nat → Int32} {J : Nat → Nat → Int64} {D : cd_D} {S : cd_S}
theorem cp_180L (hD : cd_okD D) (hR : cd_refD D I) (hT : cd_refS D S I) {o t : Nat} {f : Nat → Int} (ho : o = 117 ∨ o = 118) (hf : ∀ k, k < D 0 2 → I o k = zI (f k)) (ht : t < 2 ^ 31) : ∀ (d i : Nat), i + d = D 0 2 → cd_go 180 4 [.ref 100, .int (nI t), .ref o, .int (zI (ce_sum (fun k => if cd_held S k && Nat.beq (D 12 k) t then f k else 0) i)), .int (nI i)] [] (cd_mm L w I J) = some (some (.int (zI (ce_pull D S f t))), cd_mm L w I J) := by
  have h12 := hD.1.2.2.1
  have h8 := hD.1.1
  intro d
  induction d with
  | zero =>
    intro i hi
    obtain rfl : i = D 0 2 := by omega
    refine cd_s180_4 ho ?_
    rw [hR.1.2.2.1, if_neg (nI_nlt (Nat.le_refl _) (by omega))]
    rfl
  | succ d ih =>
    intro i hi
    have h := ih (i + 1) (by omega)
    have ht1 := (hD.2.2.2 i (by omega)).2
    unfold ce_sum at h
    refine cd_s180_4 ho ?_
    rw [hR.1.2.2.1, if_pos (nI_lt (by omega) (by omega)), if_pos (cd_inN (by omega) (by decide)), if_pos (cd_inN (by omega) (by decide)), if_pos (cd_inN (by omega) (by decide)), nI_clamp (by omega), (hT.2 i (by omega)).2.2, (hR.2.2.2 i (by omega)).2, hf i (by omega), nI_1]
    have e0 : ∀ z : Int, zI z + 0 = zI (z + 0) := fun z => by rw [show (0 : Int32) = zI 0 from rfl, zI_add]
    rw [zI_add, e0]
    unfold cd_held at h ⊢
    cases hh : (S 0 2).testBit i with
    | false =>
      simp only [hh, Bool.false_and, Bool.false_eq_true, if_false] at h
      exact (if_pos (show cd_tf false = 0 by decide)).trans h
    | true =>
      refine (if_neg (show ¬ cd_tf true = 0 by decide)).trans ?_
      by_cases hq : D 12 i = t
      · rw [if_pos (by rw [hq])]
        simp only [hh, hq, Nat.beq_refl, Bool.true_and, if_true] at h
        exact h
      · rw [if_neg (fun q => hq ((nI_eq (by omega) (by omega)).mp q))]
        have hb : Nat.beq (D 12 i) t = false := Bool.eq_false_iff.mpr fun q => hq (Nat.eq_of_beq_eq_true q)
        simp only [hh, hb, Bool.true_and, Bool.false_eq_true, if_false] at h
        exact h
theorem cp_180 (hD : cd_okD D) (hR : cd_refD D I) (hT : cd_refS D S I) {o t : Nat} {f : Nat → Int} (ho : o = 117 ∨ o = 118) (hf : ∀ k, k < D 0 2 → I o k = zI (f k)) (ht : t < 2 ^ 31) : cd_c 180 [.ref 100, .int (nI t), .ref o] (cd_mm L w I J) = some (some (.int (zI (ce_pull D S f t))), cd_mm L w I J) :=
  cd_c_of (l := [.ref 100, .int (nI t), .ref o, .null, .null]) rfl rfl (cd_s180_0 ho (cp_180L hD hR hT ho hf ht (D 0 2) 0 (by omega)))
end CDS
