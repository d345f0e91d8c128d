/-! ===== the reference: how high a hold lifts a cell ===== -/
abbrev zI (z : Int) : Int32 := Int32.ofInt z
theorem zI_n (n : Nat) : zI (n : Int) = nI n := Int32.ofInt_eq_ofNat
theorem zI_ti {z : Int} (h1 : -(2 : Int) ^ 31 ≤ z) (h2 : z < (2 : Int) ^ 31) : (zI z).toInt = z := Int32.toInt_ofInt_of_le h1 h2
theorem zI_lt {a b : Int} (h1 : -(2 : Int) ^ 31 ≤ a) (h2 : a < (2 : Int) ^ 31) (h3 : -(2 : Int) ^ 31 ≤ b) (h4 : b < (2 : Int) ^ 31) : zI a < zI b ↔ a < b := by rw [fa_lt, zI_ti h1 h2, zI_ti h3 h4]
theorem zI_le {a b : Int} (h1 : -(2 : Int) ^ 31 ≤ a) (h2 : a < (2 : Int) ^ 31) (h3 : -(2 : Int) ^ 31 ≤ b) (h4 : b < (2 : Int) ^ 31) : zI a ≤ zI b ↔ a ≤ b := by rw [fa_le, zI_ti h1 h2, zI_ti h3 h4]
theorem zI_sub (a b : Int) : zI a - zI b = zI (a - b) := (Int32.ofInt_sub a b).symm
theorem zI_add (a b : Int) : zI a + zI b = zI (a + b) := (Int32.ofInt_add a b).symm
theorem zI_mul (a b : Int) : zI a * zI b = zI (a * b) := (Int32.ofInt_mul a b).symm
def cd_dst (a b : Nat) : Nat := if a < b then b - a else a - b
def cd_stp (c d : Nat) : Nat := cd_dst (c / 8) (d / 8) + cd_dst (c % 8) (d % 8)
/-- how high hold k lifts its cloth at c -/
def cd_hby (D : cd_D) (S : cd_S) (k c : Nat) : Int := (cd_top D S (D 12 k) : Int) - (D 9 (D 11 k) : Int) * (cd_stp (S 1 (D 12 k)) c : Int)
theorem cd_abs {a b : Nat} (ha : a < 2 ^ 30) (hb : b < 2 ^ 30) : (if nI a - nI b < 0 then -(nI a - nI b) else nI a - nI b) = nI (cd_dst a b) := by
  unfold cd_dst
  by_cases h : a < b
  · rw [if_pos (pk_sneg hb h), if_pos h, Int32.neg_sub, pk_sub (by omega)]
  · have h2 : ¬ nI a - nI b < 0 := by
      rw [pk_sub (by omega)]
      exact nI_pos (by omega)
    rw [if_neg h2, if_neg h, pk_sub (by omega)]
section CDO
variable {L : Nat} {w : Bool} {I : Nat → Nat → Int32} {J : Nat → Nat → Int64} {D : cd_D} {S : cd_S}
theorem cp_146 {c d : Nat} (hc : c < 64) (hd : d < 64) : cd_c 146 [.int (nI c), .int (nI d)] (cd_mm L w I J) = some (some (.int (nI (cd_stp c d))), cd_mm L w I J) := by
  refine cd_c_of (l := [.int (nI c), .int (nI d)]) rfl rfl (cd_s146_0 (cd_ci_s.mpr ⟨_, _, cp_144 _, cd_s146_8 (cd_ci_s.mpr ⟨_, _, cp_144 _, cd_s146_16 ?_⟩)⟩))
  have v1 : nI c / 8 - nI d / 8 = nI (c / 8) - nI (d / 8) := by
    rw [show (8 : Int32) = nI 8 from rfl, pk_div (by omega) (by decide) (by decide), pk_div (by omega) (by decide) (by decide)]
  have v2 : (nI c - nI c / 8 * 8) - (nI d - nI d / 8 * 8) = nI (c % 8) - nI (d % 8) := by
    rw [show (8 : Int32) = nI 8 from rfl, pk_rem (by omega) (by decide) (by decide), pk_rem (by omega) (by decide) (by decide)]
  rw [v1, v2, cd_abs (by omega) (by omega), cd_abs (by omega) (by omega), nI_add]
  rfl
theorem cp_172 (hD : cd_okD D) (hR : cd_refD D I) (hT : cd_refS D S I) {t : Nat} (ht : t < D 0 0) : cd_c 172 [.ref 100, .int (nI t)] (cd_mm L w I J) = some (some (.int (nI (cd_top D S t))), cd_mm L w I J) := by
  have h8 := hD.1.1
  refine cd_c_of (l := [.ref 100, .int (nI t)]) rfl rfl (cd_s172_0 ?_)
  rw [if_pos (cd_inN (by omega) (by decide)), nI_clamp (by omega), (hT.1 t ht).2, (hR.2.1 t ht).1]
  unfold cd_top
  cases (S 0 1).testBit t with
  | false => exact (if_pos (show cd_tf false = 0 by decide)).trans (if_pos (cd_inN (by omega) (by decide)))
  | true => rfl
theorem cp_173 (hD : cd_okD D) (hS : cd_okS D S) (hR : cd_refD D I) (hT : cd_refS D S I) {c : Nat} (hc : c < 2 ^ 31) : cd_c 173 [.ref 100, .int (nI c)] (cd_mm L w I J) = some (some (.int (nI (cd_gnd D S c))), cd_mm L w I J) := by
  have h8 := hD.1.1
  refine cd_c_of (l := [.ref 100, .int (nI c), .null]) rfl rfl (cd_s173_0 (cd_ci_s.mpr ⟨_, _, cp_148 hD hS hR hT hc, cd_s173_3 ?_⟩))
  unfold cd_gnd
  cases hq : cd_thAt D S c with
  | none => exact cd_s173_11 rfl
  | some t =>
    have ht := (cd_last_lt hq).1
    refine (if_neg (nI_pos (n := t) (by omega))).trans (cd_ci_s.mpr ⟨_, _, cp_172 hD hR hT ht, cd_s173_11 rfl⟩)
theorem cp_174 (hD : cd_okD D) (hS : cd_okS D S) (hR : cd_refD D I) (hT : cd_refS D S I) {k c : Nat} (hk : k < D 0 2) (hc : c < 64) : cd_c 174 [.ref 100, .int (nI k), .int (nI c)] (cd_mm L w I J) = some (some (.int (zI (cd_hby D S k c))), cd_mm L w I J) := by
  obtain ⟨⟨h8, h3, h12, -⟩, -, -, hH⟩ := id hD
  obtain ⟨hc1, ht1⟩ := hH k hk
  obtain ⟨r1, r2⟩ := hR.2.2.2 k hk
  have hat := hS.1 _ ht1
  refine cd_c_of (l := [.ref 100, .int (nI k), .int (nI c), .null]) rfl rfl (cd_s174_0 ?_)
  rw [if_pos (cd_inN (by omega) (by decide)), nI_clamp (by omega), r2]
  refine cd_ci_s.mpr ⟨_, _, cp_172 hD hR hT ht1, cd_s174_8 ?_⟩
  have q : (5 : Int32) * nI (D 11 k) + 4 = nI (5 * D 11 k + 4) := by
    rw [fa_lit, pk_mul, fa_lit, nI_add]
  rw [if_pos (cd_inN (by omega) (by decide)), nI_clamp (by omega), r1, q, if_pos (cd_inN (by omega) (by decide)), if_pos (cd_inN (by omega) (by decide)), nI_clamp (by omega), nI_clamp (by omega), (hT.1 _ ht1).1, (hR.2.2.1 _ hc1).2.2.2.2]
  refine cd_ci_s.mpr ⟨_, _, cp_146 hat hc, cd_s174_25 ?_⟩
  unfold cd_hby
  rw [← zI_sub, ← zI_mul, zI_n, zI_n, zI_n]
end CDO
