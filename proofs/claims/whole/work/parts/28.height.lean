/-! ===== the reference: a cell's height ===== -/
/-- the height that the first n cloths give -/
def cd_hi (D : cd_D) (S : cd_S) (c : Nat) : Nat → Int
  | 0 => -1
  | n + 1 => if cd_hi D S c n < (if cd_und D n c then cd_hangs D S n c else -1) then (if cd_und D n c then cd_hangs D S n c else -1) else cd_hi D S c n
def cd_height (D : cd_D) (S : cd_S) (c : Nat) : Int := cd_hi D S c (D 0 1)
theorem cd_hi_b {D : cd_D} {S : cd_S} (hD : cd_okD D) (hS : cd_okS D S) {c : Nat} (hc : c < 64) : ∀ n, -200 ≤ cd_hi D S c n ∧ cd_hi D S c n ≤ 200 := by
  intro n
  induction n with
  | zero => exact ⟨by show (-200 : Int) ≤ -1; decide, by show (-1 : Int) ≤ 200; decide⟩
  | succ n ih =>
    have h := cd_hangs_b hD hS n hc
    unfold cd_hi
    repeat' split
    all_goals omega
section CDR
variable {L : Nat} {w : Bool} {I : Nat → Nat → Int32} {J : Nat → Nat → Int64} {D : cd_D} {S : cd_S}
theorem cp_190L (hD : cd_okD D) (hS : cd_okS D S) (hR : cd_refD D I) (hT : cd_refS D S I) {c : Nat} (hc : c < 64) : ∀ (d i : Nat) (v : Value), i + d = D 0 1 → cd_go 190 4 [.ref 100, .int (nI c), .int (zI (cd_hi D S c i)), .int (nI i), v] [] (cd_mm L w I J) = some (some (.int (zI (cd_height D S c))), cd_mm L w I J) := by
  have h3 := hD.1.2.1
  intro d
  induction d with
  | zero =>
    intro i v hi
    obtain rfl : i = D 0 1 := by omega
    refine cd_s190_4 ?_
    rw [hR.1.2.1, if_neg (nI_nlt (Nat.le_refl _) (by omega))]
    rfl
  | succ d ih =>
    intro i v hi
    have hb := cd_hi_b hD hS hc i
    have hh := cd_hangs_b hD hS i hc
    refine cd_s190_4 ?_
    rw [hR.1.2.1, if_pos (nI_lt (by omega) (by omega))]
    refine cd_ci_s.mpr ⟨_, _, cp_150 hD hR (by omega) hc, cd_s190_12 ?_⟩
    have h := fun u => ih (i + 1) u (by omega)
    unfold cd_hi at h
    rw [nI_1]
    cases hu : cd_und D i c with
    | false =>
      simp only [hu, Bool.false_eq_true, if_false] at h
      refine (if_pos (show cd_tf false = 0 by decide)).trans ?_
      have e : (-1 : Int32) = zI (-1) := rfl
      by_cases hq : cd_hi D S c i < -1
      · rw [if_pos (by rw [e]; exact (zI_lt (by omega) (by omega) (by decide) (by decide)).mpr hq)]
        rw [if_pos hq] at h
        exact h _
      · rw [if_neg (by rw [e]; exact fun q => hq ((zI_lt (by omega) (by omega) (by decide) (by decide)).mp q))]
        rw [if_neg hq] at h
        exact h _
    | true =>
      simp only [hu, if_true] at h
      refine (if_neg (show ¬ cd_tf true = 0 by decide)).trans ?_
      refine cd_ci_s.mpr ⟨_, _, cp_176 hD hS hR hT (by omega) hc, cd_s190_17 ?_⟩
      rw [nI_1]
      by_cases hq : cd_hi D S c i < cd_hangs D S i c
      · rw [if_pos ((zI_lt (by omega) (by omega) (by omega) (by omega)).mpr hq)]
        rw [if_pos hq] at h
        exact h _
      · rw [if_neg (fun q => hq ((zI_lt (by omega) (by omega) (by omega) (by omega)).mp q))]
        rw [if_neg hq] at h
        exact h _
theorem cp_190 (hD : cd_okD D) (hS : cd_okS D S) (hR : cd_refD D I) (hT : cd_refS D S I) {c : Nat} (hc : c < 64) : cd_c 190 [.ref 100, .int (nI c)] (cd_mm L w I J) = some (some (.int (zI (cd_height D S c))), cd_mm L w I J) :=
  cd_c_of (l := [.ref 100, .int (nI c), .null, .null, .null]) rfl rfl (cd_s190_0 (cp_190L hD hS hR hT hc (D 0 1) 0 .null (by omega)))
end CDR
