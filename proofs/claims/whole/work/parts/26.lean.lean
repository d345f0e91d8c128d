/-! ===== the reference: on which hold a cell leans ===== -/
def cd_held (S : cd_S) (k : Nat) : Bool := (S 0 2).testBit k
/-- holds n-1 down to 0 are asked -/
def cd_lr (D : cd_D) (S : cd_S) (j c : Nat) : Nat → Option Nat × Int → Option Nat × Int
  | 0, x => x
  | n + 1, x => cd_lr D S j c n (if (cd_held S n && Nat.beq (D 11 n) j) && decide (x.2 ≤ cd_hby D S n c) then (some n, cd_hby D S n c) else x)
def cd_leans (D : cd_D) (S : cd_S) (j c : Nat) : Option Nat := (cd_lr D S j c (D 0 2) (none, (cd_gnd D S c : Int))).1
def cd_hangs (D : cd_D) (S : cd_S) (j c : Nat) : Int := match cd_leans D S j c with
  | none => (cd_gnd D S c : Int)
  | some k => cd_hby D S k c
theorem cd_top_le {D : cd_D} {S : cd_S} (hD : cd_okD D) {t : Nat} (ht : t < D 0 0) : 1 ≤ cd_top D S t ∧ cd_top D S t ≤ 20 := by
  have h := hD.2.1 t ht
  unfold cd_top
  split <;> omega
theorem cd_gnd_le {D : cd_D} {S : cd_S} (hD : cd_okD D) (c : Nat) : cd_gnd D S c ≤ 20 := by
  unfold cd_gnd
  split
  · omega
  · rename_i t hq
    exact (cd_top_le hD (cd_last_lt hq).1).2
theorem cd_dst_le {a b : Nat} (ha : a < 8) (hb : b < 8) : cd_dst a b ≤ 7 := by
  unfold cd_dst
  split <;> omega
theorem cd_stp_le {c d : Nat} (hc : c < 64) (hd : d < 64) : cd_stp c d ≤ 14 := by
  have h1 := cd_dst_le (a := c / 8) (b := d / 8) (by omega) (by omega)
  have h2 := cd_dst_le (a := c % 8) (b := d % 8) (by omega) (by omega)
  unfold cd_stp
  omega
theorem cd_hby_b {D : cd_D} {S : cd_S} (hD : cd_okD D) (hS : cd_okS D S) {k c : Nat} (hk : k < D 0 2) (hc : c < 64) : -200 ≤ cd_hby D S k c ∧ cd_hby D S k c ≤ 200 := by
  obtain ⟨hc1, ht1⟩ := hD.2.2.2 k hk
  have h1 := cd_top_le (S := S) hD ht1
  have h2 := hD.2.2.1 _ hc1
  have h3 := cd_stp_le (hS.1 _ ht1) hc
  have h4 : D 9 (D 11 k) * cd_stp (S 1 (D 12 k)) c ≤ 9 * 14 := Nat.mul_le_mul (by omega) h3
  have h5 : (D 9 (D 11 k) : Int) * (cd_stp (S 1 (D 12 k)) c : Int) = ((D 9 (D 11 k) * cd_stp (S 1 (D 12 k)) c : Nat) : Int) := (Int.natCast_mul _ _).symm
  unfold cd_hby
  rw [h5]
  omega
section CDP
variable {L : Nat} {w : Bool} {I : Nat → Nat → Int32} {J : Nat → Nat → Int64} {D : cd_D} {S : cd_S}
theorem cp_175L (hD : cd_okD D) (hS : cd_okS D S) (hR : cd_refD D I) (hT : cd_refS D S I) {j c : Nat} (hj : j < D 0 1) (hc : c < 64) : ∀ (n : Nat) (x : Option Nat × Int), n ≤ D 0 2 → (-200 ≤ x.2 ∧ x.2 ≤ 200) → cd_go 175 11 [.ref 100, .int (nI j), .int (nI c), .int (cd_oi x.1), .int (zI x.2), .int (nI n - 1)] [] (cd_mm L w I J) = some (some (.int (cd_oi (cd_lr D S j c n x).1)), cd_mm L w I J) := by
  obtain ⟨h8, h3, h12, -⟩ := hD.1
  intro n
  induction n with
  | zero =>
    intro x _ _
    refine cd_s175_11 ((if_pos (by decide)).trans rfl)
  | succ n ih =>
    intro x hn hx
    have hb := cd_hby_b hD hS (k := n) (c := c) (by omega) hc
    have e1 : nI (n + 1) - 1 = nI n := nI_pred n
    have e2 : nI n + (-1) = nI n - 1 := (Int32.sub_eq_add_neg _ _).symm
    obtain ⟨-, -, r3⟩ := hT.2 n (by omega)
    obtain ⟨r1, -⟩ := hR.2.2.2 n (by omega)
    have hc1 := (hD.2.2.2 n (by omega)).1
    rw [e1]
    refine cd_s175_11 ?_
    rw [if_neg (nI_pos (by omega)), if_pos (cd_inN (by omega) (by decide)), if_pos (cd_inN (by omega) (by decide)), nI_clamp (by omega), r3, r1, e2]
    unfold cd_lr cd_held
    cases hh : (S 0 2).testBit n with
    | false => exact (if_pos (show cd_tf false = 0 by decide)).trans (ih x (by omega) hx)
    | true =>
      refine (if_neg (show ¬ cd_tf true = 0 by decide)).trans ?_
      by_cases hq : D 11 n = j
      · rw [if_pos (by rw [hq]), hq, Nat.beq_refl]
        refine cd_ci_s.mpr ⟨_, _, cp_174 hD hS hR hT (by omega) hc, cd_s175_28 ?_⟩
        by_cases hl : x.2 ≤ cd_hby D S n c
        · rw [if_neg (fun q => by have := (zI_lt (by omega) (by omega) (by omega) (by omega)).mp q; omega), decide_eq_true hl]
          refine cd_ci_s.mpr ⟨_, _, cp_174 hD hS hR hT (by omega) hc, cd_s175_36 ?_⟩
          rw [e2]
          exact ih (some n, cd_hby D S n c) (by omega) hb
        · rw [if_pos ((zI_lt (by omega) (by omega) (by omega) (by omega)).mpr (by omega)), decide_eq_false hl, e2]
          exact ih x (by omega) hx
      · rw [if_neg (fun q => hq ((nI_eq (by omega) (by omega)).mp q)), show Nat.beq (D 11 n) j = false from Bool.eq_false_iff.mpr fun h => hq (Nat.eq_of_beq_eq_true h)]
        exact ih x (by omega) hx
theorem cp_175 (hD : cd_okD D) (hS : cd_okS D S) (hR : cd_refD D I) (hT : cd_refS D S I) {j c : Nat} (hj : j < D 0 1) (hc : c < 64) : cd_c 175 [.ref 100, .int (nI j), .int (nI c)] (cd_mm L w I J) = some (some (.int (cd_oi (cd_leans D S j c))), cd_mm L w I J) := by
  refine cd_c_of (l := [.ref 100, .int (nI j), .int (nI c), .null, .null, .null]) rfl rfl (cd_s175_0 (cd_ci_s.mpr ⟨_, _, cp_173 hD hS hR hT (by omega), cd_s175_5 ?_⟩))
  have hg := cd_gnd_le (S := S) hD c
  rw [hR.1.2.2.1]
  have h := cp_175L (L := L) (w := w) (J := J) hD hS hR hT hj hc (D 0 2) (none, (cd_gnd D S c : Int)) (Nat.le_refl _) ⟨by show (-200 : Int) ≤ (cd_gnd D S c : Int); omega, by show (cd_gnd D S c : Int) ≤ 200; omega⟩
  rw [zI_n] at h
  exact h
end CDP
