/-! ===== the reference: work, whole; draws and sizes ===== -/
/-- draws and loads stand in their cells -/
def ce_done (D : cd_D) (S : cd_S) (I : Nat → Nat → Int32) : Prop := ∀ k, k < D 0 2 → I 117 k = zI (ce_draw D S 0 k) ∧ I 118 k = zI (ce_draw D S 1 k) ∧ I 119 k = zI (ce_draw D S 2 k)
section CDT3
variable {L : Nat} {w : Bool} {I : Nat → Nat → Int32} {J : Nat → Nat → Int64} {D : cd_D} {S : cd_S}
theorem cp_177B (hD : cd_okD D) (hS : cd_okS D S) (hR : cd_refD D I) (hT : cd_refS D S I) : ∀ (d j : Nat) (I1 : Nat → Nat → Int32) (w2 w3 w4 w5 : Value), j + d = D 0 1 → ce_fr ce_x177 I I1 → ce_w177 D S I1 j 0 → ∃ I3, cd_go 177 25 [.ref 100, .int (nI j), w2, w3, w4, w5] [] (cd_mm L w I1 J) = some (none, cd_mm L w I3 J) ∧ (ce_fr ce_x177 I I3 ∧ ce_done D S I3) := by
  have h3 := hD.1.2.1
  intro d
  induction d with
  | zero =>
    intro j I1 w2 w3 w4 w5 hj hf hw
    obtain rfl : j = D 0 1 := by omega
    refine ⟨I1, cd_s177_25 ?_, hf, hw⟩
    rw [(hR.fr hf ce_x177_M).1.2.1, if_neg (nI_nlt (Nat.le_refl _) (by omega))]
  | succ d ih =>
    intro j I1 w2 w3 w4 w5 hj hf hw
    have hR1 := hR.fr hf ce_x177_M
    obtain ⟨I3, e, p⟩ := cp_177C (L := L) (w := w) (J := J) hD hS hR hT (j := j) (by omega) (fun I2 v4 v5 hf2 hw2 => ih (j + 1) I2 _ _ v4 v5 (by omega) hf2 hw2) 64 0 I1 w4 w5 (by omega) hf hw
    refine ⟨I3, cd_s177_25 ?_, p⟩
    have q : (5 : Int32) * nI j + 3 = nI (5 * j + 3) := by rw [fa_lit, pk_mul, fa_lit, nI_add]
    rw [hR1.1.2.1, if_pos (nI_lt (by omega) (by omega)), q, if_pos (cd_inN (by omega) (by decide)), nI_clamp (by omega), (hR1.2.2.1 j (by omega)).2.2.2.1]
    exact e
theorem cp_177 (hD : cd_okD D) (hS : cd_okS D S) (hR : cd_refD D I) (hT : cd_refS D S I) : ∃ I3, cd_c 177 [.ref 100] (cd_mm L w I J) = some (none, cd_mm L w I3 J) ∧ ce_fr ce_x177 I I3 ∧ ce_done D S I3 := by
  obtain ⟨I3, e, p⟩ := cp_177A (L := L) (w := w) (J := J) hD hR (P := fun I3 => ce_fr ce_x177 I I3 ∧ ce_done D S I3) (fun I2 hf hz => cp_177B hD hS hR hT (D 0 1) 0 I2 _ _ _ _ (by omega) hf (fun k hk => hz k hk)) (D 0 2) 0 I (by omega) ce_fr.rf (fun k hk => absurd hk (by omega))
  exact ⟨I3, cd_c_of (l := [.ref 100, .null, .null, .null, .null, .null]) rfl rfl (cd_s177_0 e), p⟩
end CDT3
