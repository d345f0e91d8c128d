/-! ===== the reference: draws and loads ===== -/
def ce_sgn (z : Int) : Int := if z < 0 then -1 else if 0 < z then 1 else 0
/-- what a cell adds to a hold's draw along rows (0), along places (1), and to its load (2) -/
def ce_g (D : cd_D) (S : cd_S) (q j c k : Nat) : Int := if q = 0 then (D 8 j : Int) * ce_sgn ((c / 8 : Nat) - (S 1 (D 12 k) / 8 : Nat)) else if q = 1 then (D 8 j : Int) * ce_sgn ((c % 8 : Nat) - (S 1 (D 12 k) % 8 : Nat)) else (D 8 j : Int)
def ce_T (D : cd_D) (S : cd_S) (q j c k : Nat) : Int := if cd_und D j c && decide (cd_leans D S j c = some k) then ce_g D S q j c k else 0
/-- the sum over j cloths and c cells of the next -/
def ce_acc (D : cd_D) (S : cd_S) (q k j c : Nat) : Int := ce_sum (fun i => ce_sum (fun c => ce_T D S q i c k) 64) j + ce_sum (fun c => ce_T D S q j c k) c
def ce_draw (D : cd_D) (S : cd_S) (q k : Nat) : Int := ce_acc D S q k (D 0 1) 0
def ce_x177 (a _k : Nat) : Bool := Nat.ble 117 a && Nat.ble a 119
def ce_w177 (D : cd_D) (S : cd_S) (I : Nat → Nat → Int32) (j c : Nat) : Prop := ∀ k, k < D 0 2 → I 117 k = zI (ce_acc D S 0 k j c) ∧ I 118 k = zI (ce_acc D S 1 k j c) ∧ I 119 k = zI (ce_acc D S 2 k j c)
theorem ce_acc_row {D : cd_D} {S : cd_S} {q k j : Nat} : ce_acc D S q k j 64 = ce_acc D S q k (j + 1) 0 := by
  unfold ce_acc
  show _ = (ce_sum _ j + ce_sum (fun c => ce_T D S q j c k) 64) + 0
  omega
theorem ce_acc_s {D : cd_D} {S : cd_S} {q k j c : Nat} : ce_acc D S q k j (c + 1) = ce_acc D S q k j c + ce_T D S q j c k := by
  unfold ce_acc
  show _ + (ce_sum _ c + ce_T D S q j c k) = _
  omega
theorem ce_sgnI {z : Int} (h1 : -(2 : Int) ^ 30 ≤ z) (h2 : z < (2 : Int) ^ 30) : (if zI z < 0 then (-1 : Int32) else if 0 < zI z then 1 else 0) = zI (ce_sgn z) := by
  unfold ce_sgn
  have e : (0 : Int32) = zI 0 := rfl
  have hl : zI z < 0 ↔ z < 0 := by rw [e]; exact zI_lt (by omega) (by omega) (by decide) (by decide)
  have hg : 0 < zI z ↔ 0 < z := by rw [e]; exact zI_lt (by decide) (by decide) (by omega) (by omega)
  by_cases h : z < 0
  · rw [if_pos (hl.mpr h), if_pos h]; rfl
  · rw [if_neg (fun q => h (hl.mp q)), if_neg h]
    by_cases h2 : 0 < z
    · rw [if_pos (hg.mpr h2), if_pos h2]; rfl
    · rw [if_neg (fun q => h2 (hg.mp q)), if_neg h2]; rfl
