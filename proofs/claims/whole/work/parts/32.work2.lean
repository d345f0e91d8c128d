/-! ===== the reference: work ===== -/
theorem cd_xM_le {a k : Nat} (h : cd_xM a k = true) : 100 ≤ a ∧ a ≤ 112 := by
  unfold cd_xM at h
  rw [Bool.or_eq_true, Bool.and_eq_true, Bool.and_eq_true] at h
  rcases h with ⟨h1, h2⟩ | ⟨h1, -⟩
  · have := Nat.le_of_ble_eq_true h1
    have := Nat.le_of_ble_eq_true h2
    omega
  · have := Nat.eq_of_beq_eq_true h1
    omega
theorem ce_x177_M (a k : Nat) (h : cd_xM a k = true) : ce_x177 a k = false := by
  have := cd_xM_le h
  unfold ce_x177
  rw [Bool.and_eq_false_iff]
  exact Or.inl (Bool.eq_false_iff.mpr fun q => by have := Nat.le_of_ble_eq_true q; omega)
section CDT1
variable {L : Nat} {w : Bool} {I : Nat → Nat → Int32} {J : Nat → Nat → Int64} {D : cd_D} {S : cd_S}
theorem ce_w177_0 {I1 : Nat → Nat → Int32} {j c : Nat} (hz : ∀ q k, k < D 0 2 → ce_T D S q j c k = 0) (h : ce_w177 D S I1 j c) : ce_w177 D S I1 j (c + 1) := fun k hk => by
  rw [ce_acc_s, ce_acc_s, ce_acc_s, hz 0 k hk, hz 1 k hk, hz 2 k hk, Int.add_zero, Int.add_zero, Int.add_zero]
  exact h k hk
theorem cp_177A (hD : cd_okD D) (hR : cd_refD D I) {P : (Nat → Nat → Int32) → Prop} (K : ∀ I2, ce_fr ce_x177 I I2 → (∀ k, k < D 0 2 → I2 117 k = 0 ∧ I2 118 k = 0 ∧ I2 119 k = 0) → ∃ I3, cd_go 177 25 [.ref 100, .int (nI 0), .null, .null, .null, .null] [] (cd_mm L w I2 J) = some (none, cd_mm L w I3 J) ∧ P I3) : ∀ (d i : Nat) (I1 : Nat → Nat → Int32), i + d = D 0 2 → ce_fr ce_x177 I I1 → (∀ k, k < i → I1 117 k = 0 ∧ I1 118 k = 0 ∧ I1 119 k = 0) → ∃ I3, cd_go 177 2 [.ref 100, .int (nI i), .null, .null, .null, .null] [] (cd_mm L w I1 J) = some (none, cd_mm L w I3 J) ∧ P I3 := by
  have h12 := hD.1.2.2.1
  intro d
  induction d with
  | zero =>
    intro i I1 hi hf hz
    obtain rfl : i = D 0 2 := by omega
    obtain ⟨I3, e, p⟩ := K I1 hf hz
    refine ⟨I3, cd_s177_2 ?_, p⟩
    rw [(hR.fr hf ce_x177_M).1.2.2.1, if_neg (nI_nlt (Nat.le_refl _) (by omega))]
    exact e
  | succ d ih =>
    intro i I1 hi hf hz
    obtain ⟨I3, e, p⟩ := ih (i + 1) (cd_up (cd_up (cd_up I1 117 i 0) 118 i 0) 119 i 0) (by omega) (((hf.up rfl).up rfl).up rfl) (fun k hk => by
      refine ⟨?_, ?_, ?_⟩
      · rw [cd_up_a (by decide), cd_up_a (by decide)]
        by_cases hki : k = i
        · rw [hki, cd_up_s]
        · rw [cd_up_k hki]; exact (hz k (by omega)).1
      · rw [cd_up_a (by decide)]
        by_cases hki : k = i
        · rw [hki, cd_up_s]
        · rw [cd_up_k hki, cd_up_a (by decide)]; exact (hz k (by omega)).2.1
      · by_cases hki : k = i
        · rw [hki, cd_up_s]
        · rw [cd_up_k hki, cd_up_a (by decide), cd_up_a (by decide)]; exact (hz k (by omega)).2.2)
    refine ⟨I3, cd_s177_2 ?_, p⟩
    rw [(hR.fr hf ce_x177_M).1.2.2.1, if_pos (nI_lt (by omega) (by omega)), if_pos (cd_inN (by omega) (by decide)), if_pos (cd_inN (by omega) (by decide)), if_pos (cd_inN (by omega) (by decide)), nI_clamp (by omega), nI_1]
    exact e
end CDT1
