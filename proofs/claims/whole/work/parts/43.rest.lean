/-! ===== the reference: happen, goRest ===== -/
section CEE
variable {L : Nat} {w : Bool} {I : Nat → Nat → Int32} {J : Nat → Nat → Int64} {D : cd_D} {S : cd_S}
/-- what of the state is written -/
theorem ce_refS_H {m : Nat} {I1 : Nat → Nat → Int32} (hT : cd_refS D S I) (hf : ∀ a k, a ≠ 112 → I1 a k = I a k) (h : ∀ k, k < D 0 2 → I1 112 k = cd_tf (m.testBit k)) : cd_refS D (ce_sH S m) I1 := by
  refine ⟨fun t ht => ?_, fun k hk => ?_⟩
  · rw [hf _ _ (by decide), hf _ _ (by decide)]
    exact hT.1 t ht
  · rw [hf _ _ (by decide), hf _ _ (by decide), h k hk]
    exact ⟨(hT.2 k hk).1, (hT.2 k hk).2.1, rfl⟩
theorem ce_refS_L {m : Nat} {I1 : Nat → Nat → Int32} (hT : cd_refS D S I) (hf : ∀ a k, a ≠ 106 → I1 a k = I a k) (h : ∀ t, t < D 0 0 → I1 106 t = cd_tf (m.testBit t)) : cd_refS D (ce_sL S m) I1 := by
  refine ⟨fun t ht => ?_, fun k hk => ?_⟩
  · rw [hf _ _ (by decide), h t ht]
    exact ⟨(hT.1 t ht).1, rfl⟩
  · rw [hf _ _ (by decide), hf _ _ (by decide), hf _ _ (by decide)]
    exact hT.2 k hk
theorem cp_194 (hD : cd_okD D) (hS : cd_okS D S) (hR : cd_refD D I) (hT : cd_refS D S I) (hN : ce_done D S I) {e : Nat × Nat} (he : ce_okE D S e) (hw : I 100 39 = nI e.2) : cw L w (cd_c 194 [.ref 100, .int (nI e.1)] (cd_mm L w I J)) (fun v I1 J1 => v = none ∧ J1 = J ∧ (∀ a k, ¬ (a = 101 ∨ a = 106 ∨ a = 112) → I1 a k = I a k) ∧ cd_refS D (ce_hap D S e) I1) := by
  have h8 := hD.1.1
  have h12 := hD.1.2.2.1
  have r9 := hR.1.2.2.1
  refine cw_c (l := [_, _, _]) rfl rfl ?_
  refine cw_m (fun _ => cd_s194_0) ?_
  unfold ce_hap
  rcases he with ⟨h0, h2, -⟩ | ⟨h1, h2⟩ | ⟨h1, h2, c, hc⟩
  · rw [h0, hw, if_pos rfl]
    simp (disch := omega) only [cw_l0, cw_l1, cw_l2, cw_l3, cw_l4, cw_l5, cw_l6, cw_l7, cw_l8, cw_l9, cw_l10, cw_l11, cw_l12, cw_l13, cw_l14, cw_l15, cw_l16, cw_l17, cw_l18, cw_l19, cw_l20, cw_l27, cw_l28, cw_l31, cw_l32, cw_l40, cw_l52, cw_l60, cw_l61, cw_l63, cw_l64, cw_l80, cw_l97, cw_l99, cw_l100, cw_l255, cw_l500, cw_l999, cw_l65536, cd_inN, nI_clamp, nI_add, pk_mul, cw_subc, cw_zz, pk_div, cw_ltN, cw_eqN, cw_tf0, cw_tf1, cw_tfa, cw_bi, cw_bl, cw_bv, if_true, if_false, Bool.false_eq_true, Bool.true_eq_false, ite_self, cw_neg1, cw_m1a, cw_ztl, cw_zeq, cw_zadd, cw_znadd, cw_nzadd, cw_zsub, cw_zmul, cw_znmul, cw_nzmul, cw_ltNZ, cw_eqZN, cw_eqNZ, cw_ltZN, cw_on, cw_os, cw_c0, cw_c1, cw_c2, cw_c3, cw_c4, cw_c5, cw_c8, cw_c10, cw_c40, cw_c80, cw_c100, cp_144z, cp_140n, cw_mabs, cw_mod8, decide_eq_true_eq, not_false_eq_true, not_true_eq_false, true_and, and_true, false_and, and_false, decide_eq_false_iff_not, Nat.not_lt, Nat.not_le, if_pos, if_neg]
    refine cw_ret ⟨rfl, rfl, fun a k ha => cd_up_a (fun q => ha (Or.inr (Or.inr q))), ce_refS_H hT (fun a k ha => cd_up_a ha) (fun k hk => ?_)⟩
    rw [ce_msk_tb, decide_eq_true hk, Bool.true_and]
    by_cases hk2 : k = e.2
    · rw [hk2, cd_up_s, Nat.beq_refl, Bool.not_true, Bool.and_false]; rfl
    · rw [cd_up_k hk2, (hT.2 k hk).2.2, show Nat.beq k e.2 = false from Bool.eq_false_iff.mpr fun q => hk2 (Nat.eq_of_beq_eq_true q), Bool.not_false, Bool.and_true]; rfl
  · rw [h1, hw, if_neg (by decide), if_pos rfl]
    simp (disch := omega) only [cw_l0, cw_l1, cw_l2, cw_l3, cw_l4, cw_l5, cw_l6, cw_l7, cw_l8, cw_l9, cw_l10, cw_l11, cw_l12, cw_l13, cw_l14, cw_l15, cw_l16, cw_l17, cw_l18, cw_l19, cw_l20, cw_l27, cw_l28, cw_l31, cw_l32, cw_l40, cw_l52, cw_l60, cw_l61, cw_l63, cw_l64, cw_l80, cw_l97, cw_l99, cw_l100, cw_l255, cw_l500, cw_l999, cw_l65536, cd_inN, nI_clamp, nI_add, pk_mul, cw_subc, cw_zz, pk_div, cw_ltN, cw_eqN, cw_tf0, cw_tf1, cw_tfa, cw_bi, cw_bl, cw_bv, if_true, if_false, Bool.false_eq_true, Bool.true_eq_false, ite_self, cw_neg1, cw_m1a, cw_ztl, cw_zeq, cw_zadd, cw_znadd, cw_nzadd, cw_zsub, cw_zmul, cw_znmul, cw_nzmul, cw_ltNZ, cw_eqZN, cw_eqNZ, cw_ltZN, cw_on, cw_os, cw_c0, cw_c1, cw_c2, cw_c3, cw_c4, cw_c5, cw_c8, cw_c10, cw_c40, cw_c80, cw_c100, cp_144z, cp_140n, cw_mabs, cw_mod8, decide_eq_true_eq, not_false_eq_true, not_true_eq_false, true_and, and_true, false_and, and_false, decide_eq_false_iff_not, Nat.not_lt, Nat.not_le, if_pos, if_neg]
    refine cw_ret ⟨rfl, rfl, fun a k ha => cd_up_a (fun q => ha (Or.inr (Or.inl q))), ce_refS_L hT (fun a k ha => cd_up_a ha) (fun t ht => ?_)⟩
    rw [ce_msk_tb, decide_eq_true ht, Bool.true_and]
    by_cases hk2 : t = e.2
    · rw [hk2, cd_up_s, Nat.beq_refl, Bool.or_true]; rfl
    · rw [cd_up_k hk2, (hT.1 t ht).2, show Nat.beq t e.2 = false from Bool.eq_false_iff.mpr fun q => hk2 (Nat.eq_of_beq_eq_true q), Bool.or_false]
  · rw [h1, hw, if_neg (by decide), if_neg (by decide)]
    have hcl := ce_slid_lt (hS.1 _ h2) hc
    have c183 := cp_183 (L := L) (w := w) (J := J) hD hS hR hT hN h2
    rw [hc] at c183
    simp (disch := omega) only [cw_l0, cw_l1, cw_l2, cw_l3, cw_l4, cw_l5, cw_l6, cw_l7, cw_l8, cw_l9, cw_l10, cw_l11, cw_l12, cw_l13, cw_l14, cw_l15, cw_l16, cw_l17, cw_l18, cw_l19, cw_l20, cw_l27, cw_l28, cw_l31, cw_l32, cw_l40, cw_l52, cw_l60, cw_l61, cw_l63, cw_l64, cw_l80, cw_l97, cw_l99, cw_l100, cw_l255, cw_l500, cw_l999, cw_l65536, cd_inN, nI_clamp, nI_add, pk_mul, cw_subc, cw_zz, pk_div, cw_ltN, cw_eqN, cw_tf0, cw_tf1, cw_tfa, cw_bi, cw_bl, cw_bv, if_true, if_false, Bool.false_eq_true, Bool.true_eq_false, ite_self, cw_neg1, cw_m1a, cw_ztl, cw_zeq, cw_zadd, cw_znadd, cw_nzadd, cw_zsub, cw_zmul, cw_znmul, cw_nzmul, cw_ltNZ, cw_eqZN, cw_eqNZ, cw_ltZN, cw_on, cw_os, cw_c0, cw_c1, cw_c2, cw_c3, cw_c4, cw_c5, cw_c8, cw_c10, cw_c40, cw_c80, cw_c100, cp_144z, cp_140n, cw_mabs, cw_mod8, decide_eq_true_eq, not_false_eq_true, not_true_eq_false, true_and, and_true, false_and, and_false, decide_eq_false_iff_not, Nat.not_lt, Nat.not_le, if_pos, if_neg, c183]
    refine cw_m (fun _ => cd_s194_27) ?_
    simp (disch := omega) only [cw_l0, cw_l1, cw_l2, cw_l3, cw_l4, cw_l5, cw_l6, cw_l7, cw_l8, cw_l9, cw_l10, cw_l11, cw_l12, cw_l13, cw_l14, cw_l15, cw_l16, cw_l17, cw_l18, cw_l19, cw_l20, cw_l27, cw_l28, cw_l31, cw_l32, cw_l40, cw_l52, cw_l60, cw_l61, cw_l63, cw_l64, cw_l80, cw_l97, cw_l99, cw_l100, cw_l255, cw_l500, cw_l999, cw_l65536, cd_inN, nI_clamp, nI_add, pk_mul, cw_subc, cw_zz, pk_div, cw_ltN, cw_eqN, cw_tf0, cw_tf1, cw_tfa, cw_bi, cw_bl, cw_bv, if_true, if_false, Bool.false_eq_true, Bool.true_eq_false, ite_self, cw_neg1, cw_m1a, cw_ztl, cw_zeq, cw_zadd, cw_znadd, cw_nzadd, cw_zsub, cw_zmul, cw_znmul, cw_nzmul, cw_ltNZ, cw_eqZN, cw_eqNZ, cw_ltZN, cw_on, cw_os, cw_c0, cw_c1, cw_c2, cw_c3, cw_c4, cw_c5, cw_c8, cw_c10, cw_c40, cw_c80, cw_c100, cp_144z, cp_140n, cw_mabs, cw_mod8, decide_eq_true_eq, not_false_eq_true, not_true_eq_false, true_and, and_true, false_and, and_false, decide_eq_false_iff_not, Nat.not_lt, Nat.not_le, if_pos, if_neg]
    -- cells moved; then the holds
    have hmv : ∀ t, ce_mv D S e.2 1 t = if t = e.2 then c else S 1 t := fun t => by
      unfold ce_mv
      rw [hc]
      by_cases ht : t = e.2
      · rw [ht, Nat.beq_refl, Nat.beq_refl, if_pos rfl]; rfl
      · rw [if_neg ht, show Nat.beq t e.2 = false from Bool.eq_false_iff.mpr fun q => ht (Nat.eq_of_beq_eq_true q)]; rfl
    have hmc : ∀ t, t < D 0 0 → ce_mv D S e.2 1 t < 64 := fun t ht => by
      rw [hmv]
      have := hS.1 t ht
      split <;> omega
    refine cw_up (fun i (I1 : Nat → Nat → Int32) => cd_go 194 30 [.ref 100, .int (nI 2), .int (nI i)] [] (cd_mm L w I1 J)) (fun i I1 => (∀ a k, ¬ (a = 101 ∨ a = 112) → I1 a k = I a k) ∧ (∀ t, t < D 0 0 → I1 101 t = nI (ce_mv D S e.2 1 t)) ∧ ∀ k, k < D 0 2 → I1 112 k = cd_tf (if k < i then cd_held S k && cd_und D (D 11 k) (ce_mv D S e.2 1 (D 12 k)) else cd_held S k)) (D 0 2) ?_ ?_ 0 _ (by omega) ⟨fun a k ha => cd_up_a (fun q => ha (Or.inl q)), fun t ht => ?_, fun k hk => ?_⟩
    · intro I1 ⟨f1, t1, k1⟩
      refine cw_m (fun _ => cd_s194_30) ?_
      simp (disch := omega) only [cw_l0, cw_l1, cw_l2, cw_l3, cw_l4, cw_l5, cw_l6, cw_l7, cw_l8, cw_l9, cw_l10, cw_l11, cw_l12, cw_l13, cw_l14, cw_l15, cw_l16, cw_l17, cw_l18, cw_l19, cw_l20, cw_l27, cw_l28, cw_l31, cw_l32, cw_l40, cw_l52, cw_l60, cw_l61, cw_l63, cw_l64, cw_l80, cw_l97, cw_l99, cw_l100, cw_l255, cw_l500, cw_l999, cw_l65536, cd_inN, nI_clamp, nI_add, pk_mul, cw_subc, cw_zz, pk_div, cw_ltN, cw_eqN, cw_tf0, cw_tf1, cw_tfa, cw_bi, cw_bl, cw_bv, if_true, if_false, Bool.false_eq_true, Bool.true_eq_false, ite_self, cw_neg1, cw_m1a, cw_ztl, cw_zeq, cw_zadd, cw_znadd, cw_nzadd, cw_zsub, cw_zmul, cw_znmul, cw_nzmul, cw_ltNZ, cw_eqZN, cw_eqNZ, cw_ltZN, cw_on, cw_os, cw_c0, cw_c1, cw_c2, cw_c3, cw_c4, cw_c5, cw_c8, cw_c10, cw_c40, cw_c80, cw_c100, cp_144z, cp_140n, cw_mabs, cw_mod8, decide_eq_true_eq, not_false_eq_true, not_true_eq_false, true_and, and_true, false_and, and_false, decide_eq_false_iff_not, Nat.not_lt, Nat.not_le, if_pos, if_neg, f1 100 9 (by decide), r9]
      refine cw_ret ⟨rfl, rfl, fun a k ha => f1 a k (by omega), fun t ht => ⟨t1 t ht, ?_⟩, fun k hk => ⟨?_, ?_, ?_⟩⟩
      · rw [f1 106 t (by decide)]; exact (hT.1 t ht).2
      · rw [f1 110 k (by decide)]; exact (hT.2 k hk).1
      · rw [f1 111 k (by decide)]; exact (hT.2 k hk).2.1
      · rw [k1 k hk, if_pos hk]
        show _ = cd_tf ((ce_msk _ _).testBit k)
        rw [ce_msk_tb, decide_eq_true hk, Bool.true_and]
    · intro i I1 hi ⟨f1, t1, k1⟩ K
      have g1 := k1 i hi
      rw [if_neg (Nat.lt_irrefl i)] at g1
      have g2 := hR.2.2.2 i hi
      have g3 := hD.2.2.2 i hi
      have hR1 : cd_refD D I1 := hR.of (fun a k h1 h2 => f1 a k (by omega))
      have g4 : ∀ b : Bool, (b = (cd_held S i && cd_und D (D 11 i) (ce_mv D S e.2 1 (D 12 i)))) → cw L w (cd_go 194 30 [.ref 100, .int (nI 2), .int (nI (i + 1))] [] (cd_mm L w (cd_up I1 112 i (cd_tf b)) J)) _ := fun b hb => K _ ⟨fun a k ha => by rw [cd_up_a (fun q => ha (Or.inr q))]; exact f1 a k ha, fun t ht => by rw [cd_up_a (by decide)]; exact t1 t ht, fun k hk => by
        by_cases hk2 : k = i
        · subst hk2
          rw [cd_up_s, if_pos (by omega), hb]
        · rw [cd_up_k hk2, k1 k hk]
          by_cases hk3 : k < i
          · rw [if_pos hk3, if_pos (by omega)]
          · rw [if_neg hk3, if_neg (by omega)]⟩
      refine cw_m (fun _ => cd_s194_30) ?_
      simp (disch := omega) only [cw_l0, cw_l1, cw_l2, cw_l3, cw_l4, cw_l5, cw_l6, cw_l7, cw_l8, cw_l9, cw_l10, cw_l11, cw_l12, cw_l13, cw_l14, cw_l15, cw_l16, cw_l17, cw_l18, cw_l19, cw_l20, cw_l27, cw_l28, cw_l31, cw_l32, cw_l40, cw_l52, cw_l60, cw_l61, cw_l63, cw_l64, cw_l80, cw_l97, cw_l99, cw_l100, cw_l255, cw_l500, cw_l999, cw_l65536, cd_inN, nI_clamp, nI_add, pk_mul, cw_subc, cw_zz, pk_div, cw_ltN, cw_eqN, cw_tf0, cw_tf1, cw_tfa, cw_bi, cw_bl, cw_bv, if_true, if_false, Bool.false_eq_true, Bool.true_eq_false, ite_self, cw_neg1, cw_m1a, cw_ztl, cw_zeq, cw_zadd, cw_znadd, cw_nzadd, cw_zsub, cw_zmul, cw_znmul, cw_nzmul, cw_ltNZ, cw_eqZN, cw_eqNZ, cw_ltZN, cw_on, cw_os, cw_c0, cw_c1, cw_c2, cw_c3, cw_c4, cw_c5, cw_c8, cw_c10, cw_c40, cw_c80, cw_c100, cp_144z, cp_140n, cw_mabs, cw_mod8, decide_eq_true_eq, not_false_eq_true, not_true_eq_false, true_and, and_true, false_and, and_false, decide_eq_false_iff_not, Nat.not_lt, Nat.not_le, if_pos, if_neg, f1 100 9 (by decide), r9, g1]
      cases hh : cd_held S i with
      | false =>
        simp (disch := omega) only [cw_l0, cw_l1, cw_l2, cw_l3, cw_l4, cw_l5, cw_l6, cw_l7, cw_l8, cw_l9, cw_l10, cw_l11, cw_l12, cw_l13, cw_l14, cw_l15, cw_l16, cw_l17, cw_l18, cw_l19, cw_l20, cw_l27, cw_l28, cw_l31, cw_l32, cw_l40, cw_l52, cw_l60, cw_l61, cw_l63, cw_l64, cw_l80, cw_l97, cw_l99, cw_l100, cw_l255, cw_l500, cw_l999, cw_l65536, cd_inN, nI_clamp, nI_add, pk_mul, cw_subc, cw_zz, pk_div, cw_ltN, cw_eqN, cw_tf0, cw_tf1, cw_tfa, cw_bi, cw_bl, cw_bv, if_true, if_false, Bool.false_eq_true, Bool.true_eq_false, ite_self, cw_neg1, cw_m1a, cw_ztl, cw_zeq, cw_zadd, cw_znadd, cw_nzadd, cw_zsub, cw_zmul, cw_znmul, cw_nzmul, cw_ltNZ, cw_eqZN, cw_eqNZ, cw_ltZN, cw_on, cw_os, cw_c0, cw_c1, cw_c2, cw_c3, cw_c4, cw_c5, cw_c8, cw_c10, cw_c40, cw_c80, cw_c100, cp_144z, cp_140n, cw_mabs, cw_mod8, decide_eq_true_eq, not_false_eq_true, not_true_eq_false, true_and, and_true, false_and, and_false, decide_eq_false_iff_not, Nat.not_lt, Nat.not_le, if_pos, if_neg, hh]
        exact g4 false (by rw [hh]; rfl)
      | true =>
        have q1 := cp_150 (L := L) (w := w) (J := J) hD hR1 g3.1 (hmc _ g3.2)
        simp (disch := omega) only [cw_l0, cw_l1, cw_l2, cw_l3, cw_l4, cw_l5, cw_l6, cw_l7, cw_l8, cw_l9, cw_l10, cw_l11, cw_l12, cw_l13, cw_l14, cw_l15, cw_l16, cw_l17, cw_l18, cw_l19, cw_l20, cw_l27, cw_l28, cw_l31, cw_l32, cw_l40, cw_l52, cw_l60, cw_l61, cw_l63, cw_l64, cw_l80, cw_l97, cw_l99, cw_l100, cw_l255, cw_l500, cw_l999, cw_l65536, cd_inN, nI_clamp, nI_add, pk_mul, cw_subc, cw_zz, pk_div, cw_ltN, cw_eqN, cw_tf0, cw_tf1, cw_tfa, cw_bi, cw_bl, cw_bv, if_true, if_false, Bool.false_eq_true, Bool.true_eq_false, ite_self, cw_neg1, cw_m1a, cw_ztl, cw_zeq, cw_zadd, cw_znadd, cw_nzadd, cw_zsub, cw_zmul, cw_znmul, cw_nzmul, cw_ltNZ, cw_eqZN, cw_eqNZ, cw_ltZN, cw_on, cw_os, cw_c0, cw_c1, cw_c2, cw_c3, cw_c4, cw_c5, cw_c8, cw_c10, cw_c40, cw_c80, cw_c100, cp_144z, cp_140n, cw_mabs, cw_mod8, decide_eq_true_eq, not_false_eq_true, not_true_eq_false, true_and, and_true, false_and, and_false, decide_eq_false_iff_not, Nat.not_lt, Nat.not_le, if_pos, if_neg, hh, f1 109 i (by decide), f1 108 i (by decide), g2.1, g2.2, t1 _ g3.2, q1]
        refine cw_m (fun _ => cd_s194_55) ?_
        simp (disch := omega) only [cw_l0, cw_l1, cw_l2, cw_l3, cw_l4, cw_l5, cw_l6, cw_l7, cw_l8, cw_l9, cw_l10, cw_l11, cw_l12, cw_l13, cw_l14, cw_l15, cw_l16, cw_l17, cw_l18, cw_l19, cw_l20, cw_l27, cw_l28, cw_l31, cw_l32, cw_l40, cw_l52, cw_l60, cw_l61, cw_l63, cw_l64, cw_l80, cw_l97, cw_l99, cw_l100, cw_l255, cw_l500, cw_l999, cw_l65536, cd_inN, nI_clamp, nI_add, pk_mul, cw_subc, cw_zz, pk_div, cw_ltN, cw_eqN, cw_tf0, cw_tf1, cw_tfa, cw_bi, cw_bl, cw_bv, if_true, if_false, Bool.false_eq_true, Bool.true_eq_false, ite_self, cw_neg1, cw_m1a, cw_ztl, cw_zeq, cw_zadd, cw_znadd, cw_nzadd, cw_zsub, cw_zmul, cw_znmul, cw_nzmul, cw_ltNZ, cw_eqZN, cw_eqNZ, cw_ltZN, cw_on, cw_os, cw_c0, cw_c1, cw_c2, cw_c3, cw_c4, cw_c5, cw_c8, cw_c10, cw_c40, cw_c80, cw_c100, cp_144z, cp_140n, cw_mabs, cw_mod8, decide_eq_true_eq, not_false_eq_true, not_true_eq_false, true_and, and_true, false_and, and_false, decide_eq_false_iff_not, Nat.not_lt, Nat.not_le, if_pos, if_neg]
        cases hu : cd_und D (D 11 i) (ce_mv D S e.2 1 (D 12 i)) with
        | false =>
          simp (disch := omega) only [cw_l0, cw_l1, cw_l2, cw_l3, cw_l4, cw_l5, cw_l6, cw_l7, cw_l8, cw_l9, cw_l10, cw_l11, cw_l12, cw_l13, cw_l14, cw_l15, cw_l16, cw_l17, cw_l18, cw_l19, cw_l20, cw_l27, cw_l28, cw_l31, cw_l32, cw_l40, cw_l52, cw_l60, cw_l61, cw_l63, cw_l64, cw_l80, cw_l97, cw_l99, cw_l100, cw_l255, cw_l500, cw_l999, cw_l65536, cd_inN, nI_clamp, nI_add, pk_mul, cw_subc, cw_zz, pk_div, cw_ltN, cw_eqN, cw_tf0, cw_tf1, cw_tfa, cw_bi, cw_bl, cw_bv, if_true, if_false, Bool.false_eq_true, Bool.true_eq_false, ite_self, cw_neg1, cw_m1a, cw_ztl, cw_zeq, cw_zadd, cw_znadd, cw_nzadd, cw_zsub, cw_zmul, cw_znmul, cw_nzmul, cw_ltNZ, cw_eqZN, cw_eqNZ, cw_ltZN, cw_on, cw_os, cw_c0, cw_c1, cw_c2, cw_c3, cw_c4, cw_c5, cw_c8, cw_c10, cw_c40, cw_c80, cw_c100, cp_144z, cp_140n, cw_mabs, cw_mod8, decide_eq_true_eq, not_false_eq_true, not_true_eq_false, true_and, and_true, false_and, and_false, decide_eq_false_iff_not, Nat.not_lt, Nat.not_le, if_pos, if_neg, hu]
          exact g4 false (by rw [hh, hu]; rfl)
        | true =>
          simp (disch := omega) only [cw_l0, cw_l1, cw_l2, cw_l3, cw_l4, cw_l5, cw_l6, cw_l7, cw_l8, cw_l9, cw_l10, cw_l11, cw_l12, cw_l13, cw_l14, cw_l15, cw_l16, cw_l17, cw_l18, cw_l19, cw_l20, cw_l27, cw_l28, cw_l31, cw_l32, cw_l40, cw_l52, cw_l60, cw_l61, cw_l63, cw_l64, cw_l80, cw_l97, cw_l99, cw_l100, cw_l255, cw_l500, cw_l999, cw_l65536, cd_inN, nI_clamp, nI_add, pk_mul, cw_subc, cw_zz, pk_div, cw_ltN, cw_eqN, cw_tf0, cw_tf1, cw_tfa, cw_bi, cw_bl, cw_bv, if_true, if_false, Bool.false_eq_true, Bool.true_eq_false, ite_self, cw_neg1, cw_m1a, cw_ztl, cw_zeq, cw_zadd, cw_znadd, cw_nzadd, cw_zsub, cw_zmul, cw_znmul, cw_nzmul, cw_ltNZ, cw_eqZN, cw_eqNZ, cw_ltZN, cw_on, cw_os, cw_c0, cw_c1, cw_c2, cw_c3, cw_c4, cw_c5, cw_c8, cw_c10, cw_c40, cw_c80, cw_c100, cp_144z, cp_140n, cw_mabs, cw_mod8, decide_eq_true_eq, not_false_eq_true, not_true_eq_false, true_and, and_true, false_and, and_false, decide_eq_false_iff_not, Nat.not_lt, Nat.not_le, if_pos, if_neg, hu]
          exact g4 true (by rw [hh, hu]; rfl)
    · by_cases ht2 : t = e.2
      · rw [ht2, cd_up_s, hmv, if_pos rfl]
      · rw [cd_up_k ht2, hmv, if_neg ht2]; exact (hT.1 t ht).1
    · rw [cd_up_a (by decide), if_neg (Nat.not_lt_zero k)]; exact (hT.2 k hk).2.2
end CEE
