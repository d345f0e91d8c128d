/-! ===== the reference: work, its inner loop ===== -/
section CDT2
variable {L : Nat} {w : Bool} {I : Nat → Nat → Int32} {J : Nat → Nat → Int64} {D : cd_D} {S : cd_S}
theorem ce_dif {a b : Nat} (ha : a < 64) (hb : b < 64) : (if nI a - nI b < 0 then (-1 : Int32) else if 0 < nI a - nI b then 1 else 0) = zI (ce_sgn ((a : Nat) - (b : Nat))) := by
  rw [← zI_n, ← zI_n, zI_sub]
  exact ce_sgnI (by omega) (by omega)
theorem cp_177C (hD : cd_okD D) (hS : cd_okS D S) (hR : cd_refD D I) (hT : cd_refS D S I) {P : (Nat → Nat → Int32) → Prop} {j : Nat} (hj : j < D 0 1) (K : ∀ I2 w4 w5, ce_fr ce_x177 I I2 → ce_w177 D S I2 (j + 1) 0 → ∃ I3, cd_go 177 25 [.ref 100, .int (nI (j + 1)), .int (nI (D 8 j)), .int (nI 64), w4, w5] [] (cd_mm L w I2 J) = some (none, cd_mm L w I3 J) ∧ P I3) : ∀ (d c : Nat) (I1 : Nat → Nat → Int32) (w4 w5 : Value), c + d = 64 → ce_fr ce_x177 I I1 → ce_w177 D S I1 j c → ∃ I3, cd_go 177 40 [.ref 100, .int (nI j), .int (nI (D 8 j)), .int (nI c), w4, w5] [] (cd_mm L w I1 J) = some (none, cd_mm L w I3 J) ∧ P I3 := by
  obtain ⟨h8, h3, h12, -⟩ := hD.1
  intro d
  induction d with
  | zero =>
    intro c I1 w4 w5 hc hf hw
    obtain rfl : c = 64 := by omega
    obtain ⟨I3, e, p⟩ := K I1 w4 w5 hf (fun k hk => by
      rw [← ce_acc_row, ← ce_acc_row, ← ce_acc_row]
      exact hw k hk)
    refine ⟨I3, cd_s177_40 ?_, p⟩
    rw [if_neg (show ¬ nI 64 < 64 by decide), nI_1]
    exact e
  | succ d ih =>
    intro c I1 w4 w5 hc hf hw
    have hR1 := hR.fr hf ce_x177_M
    have hT1 := hT.fr hf ce_x177_M
    have e64 : nI c < 64 := by
      rw [show (64 : Int32) = nI 64 from rfl]
      exact nI_lt (by omega) (by decide)
    cases hu : cd_und D j c with
    | false =>
      obtain ⟨I3, e, p⟩ := ih (c + 1) I1 (.int (-1)) w5 (by omega) hf (ce_w177_0 (fun q k hk => by unfold ce_T; rw [hu]; rfl) hw)
      refine ⟨I3, cd_s177_40 ((if_pos e64).trans (cd_ci_s.mpr ⟨_, _, cp_150 hD hR1 hj (by omega), cd_s177_47 ?_⟩)), p⟩
      rw [hu, nI_1]
      exact (if_pos (show cd_tf false = 0 by decide)).trans e
    | true =>
      cases hl : cd_leans D S j c with
      | none =>
        obtain ⟨I3, e, p⟩ := ih (c + 1) I1 (.int (-1)) w5 (by omega) hf (ce_w177_0 (fun q k hk => by unfold ce_T; rw [hl]; simp) hw)
        refine ⟨I3, cd_s177_40 ((if_pos e64).trans (cd_ci_s.mpr ⟨_, _, cp_150 hD hR1 hj (by omega), cd_s177_47 ?_⟩)), p⟩
        rw [hu]
        refine (if_neg (show ¬ cd_tf true = 0 by decide)).trans (cd_ci_s.mpr ⟨_, _, cp_175 hD hS hR1 hT1 hj (by omega), cd_s177_52 ?_⟩)
        rw [hl, nI_1]
        exact (if_pos (show cd_oi none < 0 by decide)).trans e
      | some k =>
        have hk := cd_leans_lt hl
        obtain ⟨-, ht1⟩ := hD.2.2.2 k hk
        have hat := hS.1 _ ht1
        have hv : ∀ q, ce_T D S q j c k = ce_g D S q j c k := fun q => by
          unfold ce_T
          rw [hu, hl]
          simp
        have ho : ∀ q k2, k2 ≠ k → ce_T D S q j c k2 = 0 := fun q k2 h => by
          unfold ce_T
          rw [hu, hl, show decide (some k = some k2) = false from decide_eq_false fun q => h (Option.some.inj q).symm]
          rfl
        obtain ⟨a1, a2, a3⟩ := hw k hk
        obtain ⟨I3, e, p⟩ := ih (c + 1) (cd_up (cd_up (cd_up I1 117 k (zI (ce_acc D S 0 k j (c + 1)))) 118 k (zI (ce_acc D S 1 k j (c + 1)))) 119 k (zI (ce_acc D S 2 k j (c + 1)))) (.int (nI k)) (.int (nI (S 1 (D 12 k)))) (by omega) (((hf.up rfl).up rfl).up rfl) (fun k2 hk2 => by
          by_cases hkk : k2 = k
          · subst hkk
            rw [cd_up_a (by decide), cd_up_a (by decide), cd_up_s, cd_up_a (by decide), cd_up_s, cd_up_s]
            exact ⟨rfl, rfl, rfl⟩
          · rw [cd_up_k hkk, cd_up_k hkk, cd_up_k hkk, cd_up_k hkk, cd_up_k hkk, cd_up_k hkk, cd_up_k hkk, cd_up_k hkk, cd_up_k hkk, ce_acc_s, ce_acc_s, ce_acc_s, ho 0 k2 hkk, ho 1 k2 hkk, ho 2 k2 hkk, Int.add_zero, Int.add_zero, Int.add_zero]
            exact hw k2 hk2)
        refine ⟨I3, cd_s177_40 ((if_pos e64).trans (cd_ci_s.mpr ⟨_, _, cp_150 hD hR1 hj (by omega), cd_s177_47 ?_⟩)), p⟩
        rw [hu]
        refine (if_neg (show ¬ cd_tf true = 0 by decide)).trans (cd_ci_s.mpr ⟨_, _, cp_175 hD hS hR1 hT1 hj (by omega), cd_s177_52 ?_⟩)
        rw [hl, show cd_oi (some k) = nI k from rfl]
        dsimp only
        rw [if_neg (nI_pos (by omega)), if_pos (cd_inN (by omega) (by decide)), nI_clamp (n := k) (by omega), (hR1.2.2.2 k hk).2, if_pos (cd_inN (by omega) (by decide)), if_pos (cd_inN (by omega) (by decide)), nI_clamp (n := D 12 k) (by omega), (hT1.1 _ ht1).1]
        have v1 : nI c / 8 - nI (S 1 (D 12 k)) / 8 = nI (c / 8) - nI (S 1 (D 12 k) / 8) := by
          rw [show (8 : Int32) = nI 8 from rfl, pk_div (by omega) (by decide) (by decide), pk_div (by omega) (by decide) (by decide)]
        have v2 : (nI c - nI c / 8 * 8) - (nI (S 1 (D 12 k)) - nI (S 1 (D 12 k)) / 8 * 8) = nI (c % 8) - nI (S 1 (D 12 k) % 8) := by
          rw [show (8 : Int32) = nI 8 from rfl, pk_rem (by omega) (by decide) (by decide), pk_rem (by omega) (by decide) (by decide)]
        refine cd_ci_s.mpr ⟨_, _, cp_145 _, cd_s177_79 ?_⟩
        rw [v1, ce_dif (by omega) (by omega), if_pos (cd_inN (by omega) (by decide)), if_pos (cd_inN (by omega) (by decide)), nI_clamp (n := k) (by omega), a1, v2, ← zI_n (D 8 j), zI_mul, zI_add, cd_up_a (by decide : (118 : Nat) ≠ 117), a2]
        refine cd_ci_s.mpr ⟨_, _, cp_145 _, cd_s177_96 ?_⟩
        rw [ce_dif (by omega) (by omega), if_pos (cd_inN (by omega) (by decide)), if_pos (cd_inN (by omega) (by decide)), if_pos (cd_inN (by omega) (by decide)), nI_clamp (n := k) (by omega), zI_mul, zI_add, cd_up_a (by decide : (119 : Nat) ≠ 118), cd_up_a (by decide : (119 : Nat) ≠ 117), a3, zI_add, nI_1]
        rw [ce_acc_s, ce_acc_s, ce_acc_s, hv, hv, hv] at e
        rw [zI_n]
        exact e
end CDT2
