/-! ===== the reference: things and tops ===== -/
/-- the last below n that p takes -/
def cd_last (p : Nat → Bool) : Nat → Option Nat
  | 0 => none
  | n + 1 => if p n then some n else cd_last p n
def cd_oi : Option Nat → Int32
  | none => -1
  | some n => nI n
theorem cd_last_lt {p : Nat → Bool} : ∀ {n k : Nat}, cd_last p n = some k → k < n ∧ p k = true := by
  intro n
  induction n with
  | zero => intro k h; cases h
  | succ n ih =>
    intro k h
    unfold cd_last at h
    by_cases hp : p n = true
    · rw [if_pos hp] at h
      cases h
      exact ⟨by omega, hp⟩
    · rw [if_neg hp] at h
      have h2 := ih h
      exact ⟨by omega, h2.2⟩
def cd_thAt (D : cd_D) (S : cd_S) (c : Nat) : Option Nat := cd_last (fun t => Nat.beq (S 1 t) c) (D 0 0)
def cd_top (D : cd_D) (S : cd_S) (t : Nat) : Nat := if (S 0 1).testBit t then 1 else D 1 t
def cd_gnd (D : cd_D) (S : cd_S) (c : Nat) : Nat := match cd_thAt D S c with
  | none => 0
  | some t => cd_top D S t
section CDN
variable {L : Nat} {w : Bool} {I : Nat → Nat → Int32} {J : Nat → Nat → Int64} {D : cd_D} {S : cd_S}
theorem cp_148L (hD : cd_okD D) (hS : cd_okS D S) (hR : cd_refD D I) (hT : cd_refS D S I) {c : Nat} (hc : c < 2 ^ 31) : ∀ (d i : Nat), i + d = D 0 0 → cd_go 148 4 [.ref 100, .int (nI c), .int (cd_oi (cd_last (fun t => Nat.beq (S 1 t) c) i)), .int (nI i)] [] (cd_mm L w I J) = some (some (.int (cd_oi (cd_thAt D S c))), cd_mm L w I J) := by
  have h8 := hD.1.1
  intro d
  induction d with
  | zero =>
    intro i hi
    refine cd_s148_4 ?_
    obtain rfl : i = D 0 0 := by omega
    rw [hR.1.1, if_neg (nI_nlt (Nat.le_refl _) (by omega))]
    rfl
  | succ d ih =>
    intro i hi
    have hs := hS.1 i (by omega)
    refine cd_s148_4 ?_
    rw [hR.1.1, if_pos (nI_lt (by omega) (by omega)), if_pos (cd_inN (by omega) (by decide)), nI_clamp (by omega), (hT.1 i (by omega)).1, nI_1]
    have h := ih (i + 1) (by omega)
    rw [show cd_last (fun t => Nat.beq (S 1 t) c) (i + 1) = if Nat.beq (S 1 i) c then some i else cd_last (fun t => Nat.beq (S 1 t) c) i from rfl] at h
    by_cases he : S 1 i = c
    · rw [if_pos (by rw [he])]
      rw [he, Nat.beq_refl, if_pos rfl] at h
      exact h
    · rw [if_neg (fun q => he ((nI_eq (by omega) hc).mp q))]
      rw [if_neg (fun q => he (Nat.eq_of_beq_eq_true q))] at h
      exact h
theorem cp_148 (hD : cd_okD D) (hS : cd_okS D S) (hR : cd_refD D I) (hT : cd_refS D S I) {c : Nat} (hc : c < 2 ^ 31) : cd_c 148 [.ref 100, .int (nI c)] (cd_mm L w I J) = some (some (.int (cd_oi (cd_thAt D S c))), cd_mm L w I J) :=
  cd_c_of (l := [.ref 100, .int (nI c), .null, .null]) rfl rfl (cd_s148_0 (cp_148L hD hS hR hT hc (D 0 0) 0 (by omega)))
end CDN
