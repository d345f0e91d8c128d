/-! ===== the reference: isGiving ===== -/
theorem zI_d10 {a : Int} (h0 : 0 ≤ a) (h1 : a < (2 : Int) ^ 31) : zI a / 10 = zI (a / 10) := by
  obtain ⟨n, rfl⟩ := Int.eq_ofNat_of_zero_le h0
  have e : (10 : Int32) = nI 10 := rfl
  have e2 : ((n : Int) / 10) = ((n / 10 : Nat) : Int) := (Int.natCast_ediv n 10).symm
  rw [zI_n, e, pk_div (by omega) (by decide) (by decide), e2, zI_n]
theorem ce_has {h k : Nat} (hh : h < 2 ^ 31) (hk : k < 31) : decide ((nI h >>> (nI k &&& 31)) &&& 1 = 1) = h.testBit k := by
  have e : nI h >>> (nI k &&& 31) = nI (h / 2 ^ k) := pk_shrN hh _ k (s_l k (by omega))
  have e2 : nI (h / 2 ^ k) &&& 1 = nI (h / 2 ^ k % 2) := by
    have := fa_mask (h / 2 ^ k) 1
    exact this
  rw [e, e2, show (1 : Int32) = nI 1 from rfl]
  have h2 : nI (h / 2 ^ k % 2) = nI 1 ↔ h / 2 ^ k % 2 = 1 := nI_eq (by omega) (by decide)
  rw [decide_eq_decide.mpr h2, Nat.testBit_eq_decide_div_mod_eq]
/-- what a state comes to: hands hold as what is trapped, only a book weighs -/
def ce_eff (S : cd_S) (h : Nat) : cd_S := fun r k => bif Nat.beq r 2 then (bif h.testBit k then 4 else S 2 k) else bif Nat.beq r 3 then (bif Nat.beq (S 2 k) 2 then S 3 k else 0) else S r k
theorem ce_eff_geo {D : cd_D} {S : cd_S} {h : Nat} : ce_geo D (ce_eff S h) S := ⟨fun _ _ => rfl, rfl, rfl⟩
theorem ce_dw_geo {D : cd_D} {S S2 : cd_S} (hD : cd_okD D) (h : ce_geo D S S2) {k : Nat} (hk : k < D 0 2) : ce_dw D S k = ce_dw D S2 k := by
  unfold ce_dw
  rw [h.draw hD hk, h.draw hD hk]
theorem ce_giv_at {D : cd_D} {S : cd_S} (hD : cd_okD D) {h k : Nat} {b : Int} (hk : k < D 0 2) : ce_giv D (ce_eff S h) k b = (!(Nat.beq (S 2 k) 4 || h.testBit k) && decide (ce_most D S k < ce_dw D S k + b)) := by
  have e2 : ce_eff S h 2 k = bif h.testBit k then 4 else S 2 k := rfl
  have e3 : ce_eff S h 3 k = bif Nat.beq (S 2 k) 2 then S 3 k else 0 := rfl
  unfold ce_giv ce_most
  rw [ce_dw_geo hD ce_eff_geo hk, ce_eff_geo.draw hD hk, e2, e3]
  cases hb : h.testBit k with
  | true =>
    rw [Bool.or_true]
    rfl
  | false =>
    rw [Bool.or_false]
    dsimp only [cond_false]
    by_cases h2 : S 2 k = 2
    · rw [h2]
      rfl
    · simp only [if_neg h2]
section CDV
variable {L : Nat} {w : Bool} {I : Nat → Nat → Int32} {J : Nat → Nat → Int64} {D : cd_D} {S : cd_S}
theorem cp_179 (hD : cd_okD D) (hS : cd_okS D S) (hR : cd_refD D I) (hT : cd_refS D S I) (hN : ce_done D S I) {h : Nat} (hh : I 100 38 = nI h) (hh2 : h < 2 ^ 31) {k b : Nat} (hk : k < D 0 2) (hb : b < 2 ^ 20) : cd_c 179 [.ref 100, .int (nI k), .int (nI b)] (cd_mm L w I J) = some (some (.int (cd_tf (ce_giv D (ce_eff S h) k (b : Int)))), cd_mm L w I J) := by
  have h12 := hD.1.2.2.1
  have h8 := hD.1.1
  obtain ⟨hc1, ht1⟩ := hD.2.2.2 k hk
  obtain ⟨s2, s3⟩ := hS.2.2.2 k hk
  obtain ⟨t2, t3, -⟩ := hT.2 k hk
  have t4 := (hN k hk).2.2
  have r1 := (hR.2.2.2 k hk).2
  have r4 := (hR.2.1 _ ht1).2.2.1
  have hrub := (hD.2.1 _ ht1).2.2.2.2.1
  have hdw := ce_dw_b (S := S) hD k
  have hld := ce_load_nn D S k
  have hlb := (ce_draw_b (S := S) hD 2 k).2
  have n1 : 0 ≤ ce_draw D S 2 k * (D 3 (D 12 k) : Int) := Int.mul_nonneg hld (by omega)
  have n2 : ce_draw D S 2 k * (D 3 (D 12 k) : Int) ≤ 1728 * 99 := Int.mul_le_mul hlb (by omega) (by omega) (by decide)
  have ha : ((nI h >>> (nI k &&& nI 31)) &&& nI 1 = nI 1) = (h.testBit k = true) := by
    have := ce_has hh2 (show k < 31 by omega)
    exact propext ⟨fun q => by rw [← this]; exact decide_eq_true q, fun q => by rw [← this] at q; exact of_decide_eq_true q⟩
  have e178 := cp_178 (L := L) (w := w) (J := J) hD hN hk
  rw [ce_giv_at hD hk]
  unfold ce_most
  refine cw_eq ?_
  refine cw_c (l := [_, _, _, _]) rfl rfl ?_
  (first | refine cw_m (fun _ => cd_s179_0) ?_ | refine cw_m (fun _ => cd_s179_10) ?_ | refine cw_m (fun _ => cd_s179_59) ?_)
  simp (disch := omega) only [cw_l0, cw_l1, cw_l2, cw_l3, cw_l4, cw_l5, cw_l6, cw_l7, cw_l8, cw_l9, cw_l10, cw_l11, cw_l12, cw_l13, cw_l14, cw_l15, cw_l16, cw_l17, cw_l18, cw_l19, cw_l20, cw_l27, cw_l28, cw_l31, cw_l32, cw_l40, cw_l52, cw_l60, cw_l61, cw_l63, cw_l64, cw_l80, cw_l97, cw_l99, cw_l100, cw_l255, cw_l500, cw_l999, cw_l65536, cd_inN, nI_clamp, nI_add, pk_mul, cw_subc, cw_zz, pk_div, cw_ltN, cw_eqN, cw_tf0, cw_tf1, cw_tfa, cw_bi, cw_bl, cw_bv, if_true, if_false, Bool.false_eq_true, Bool.true_eq_false, ite_self, cw_neg1, cw_m1a, cw_ztl, cw_zeq, cw_zadd, cw_znadd, cw_nzadd, cw_zsub, cw_zmul, cw_znmul, cw_nzmul, cw_ltNZ, cw_eqZN, cw_eqNZ, cw_ltZN, cw_on, cw_os, cw_c0, cw_c1, cw_c2, cw_c3, cw_c4, cw_c5, cw_c8, cw_c10, cw_c40, cw_c80, cw_c100, cp_144z, cp_140n, cw_mabs, cw_mod8, decide_eq_true_eq, not_false_eq_true, not_true_eq_false, true_and, and_true, false_and, and_false, decide_eq_false_iff_not, Nat.not_lt, Nat.not_le, t2]
  by_cases h4 : S 2 k = 4
  · rw [if_pos h4, h4]
    exact cw_ret ⟨rfl, rfl, rfl⟩
  · rw [if_neg h4, cw_beqf h4, Bool.false_or]
    simp (disch := omega) only [cw_l0, cw_l1, cw_l2, cw_l3, cw_l4, cw_l5, cw_l6, cw_l7, cw_l8, cw_l9, cw_l10, cw_l11, cw_l12, cw_l13, cw_l14, cw_l15, cw_l16, cw_l17, cw_l18, cw_l19, cw_l20, cw_l27, cw_l28, cw_l31, cw_l32, cw_l40, cw_l52, cw_l60, cw_l61, cw_l63, cw_l64, cw_l80, cw_l97, cw_l99, cw_l100, cw_l255, cw_l500, cw_l999, cw_l65536, cd_inN, nI_clamp, nI_add, pk_mul, cw_subc, cw_zz, pk_div, cw_ltN, cw_eqN, cw_tf0, cw_tf1, cw_tfa, cw_bi, cw_bl, cw_bv, if_true, if_false, Bool.false_eq_true, Bool.true_eq_false, ite_self, cw_neg1, cw_m1a, cw_ztl, cw_zeq, cw_zadd, cw_znadd, cw_nzadd, cw_zsub, cw_zmul, cw_znmul, cw_nzmul, cw_ltNZ, cw_eqZN, cw_eqNZ, cw_ltZN, cw_on, cw_os, cw_c0, cw_c1, cw_c2, cw_c3, cw_c4, cw_c5, cw_c8, cw_c10, cw_c40, cw_c80, cw_c100, cp_144z, cp_140n, cw_mabs, cw_mod8, decide_eq_true_eq, not_false_eq_true, not_true_eq_false, true_and, and_true, false_and, and_false, decide_eq_false_iff_not, Nat.not_lt, Nat.not_le, hh, cp_139, ha]
    refine cw_m (fun _ => cd_s179_10) ?_
    cases hq : h.testBit k with
    | true =>
      simp (disch := omega) only [cw_l0, cw_l1, cw_l2, cw_l3, cw_l4, cw_l5, cw_l6, cw_l7, cw_l8, cw_l9, cw_l10, cw_l11, cw_l12, cw_l13, cw_l14, cw_l15, cw_l16, cw_l17, cw_l18, cw_l19, cw_l20, cw_l27, cw_l28, cw_l31, cw_l32, cw_l40, cw_l52, cw_l60, cw_l61, cw_l63, cw_l64, cw_l80, cw_l97, cw_l99, cw_l100, cw_l255, cw_l500, cw_l999, cw_l65536, cd_inN, nI_clamp, nI_add, pk_mul, cw_subc, cw_zz, pk_div, cw_ltN, cw_eqN, cw_tf0, cw_tf1, cw_tfa, cw_bi, cw_bl, cw_bv, if_true, if_false, Bool.false_eq_true, Bool.true_eq_false, ite_self, cw_neg1, cw_m1a, cw_ztl, cw_zeq, cw_zadd, cw_znadd, cw_nzadd, cw_zsub, cw_zmul, cw_znmul, cw_nzmul, cw_ltNZ, cw_eqZN, cw_eqNZ, cw_ltZN, cw_on, cw_os, cw_c0, cw_c1, cw_c2, cw_c3, cw_c4, cw_c5, cw_c8, cw_c10, cw_c40, cw_c80, cw_c100, cp_144z, cp_140n, cw_mabs, cw_mod8, decide_eq_true_eq, not_false_eq_true, not_true_eq_false, true_and, and_true, false_and, and_false, decide_eq_false_iff_not, Nat.not_lt, Nat.not_le]
      exact cw_ret ⟨rfl, rfl, rfl⟩
    | false =>
      have fin : ∀ (m : Int) (P : Option Value → (Nat → Nat → Int32) → (Nat → Nat → Int64) → Prop), (∀ v, v = cd_tf (decide (m < ce_dw D S k + (b : Int))) → P (some (.int v)) I J) → cw L w (if m < ce_dw D S k + (b : Int) then some (some (.int (nI 1)), cd_mm L w I J) else some (some (.int (nI 0)), cd_mm L w I J)) P := fun m P h => by
        by_cases hl : m < ce_dw D S k + (b : Int)
        · rw [if_pos hl]
          exact cw_ret (h _ (by rw [decide_eq_true hl]; rfl))
        · rw [if_neg hl]
          exact cw_ret (h _ (by rw [decide_eq_false hl]; rfl))
      by_cases h0 : S 2 k = 0
      · simp (disch := omega) only [cw_l0, cw_l1, cw_l2, cw_l3, cw_l4, cw_l5, cw_l6, cw_l7, cw_l8, cw_l9, cw_l10, cw_l11, cw_l12, cw_l13, cw_l14, cw_l15, cw_l16, cw_l17, cw_l18, cw_l19, cw_l20, cw_l27, cw_l28, cw_l31, cw_l32, cw_l40, cw_l52, cw_l60, cw_l61, cw_l63, cw_l64, cw_l80, cw_l97, cw_l99, cw_l100, cw_l255, cw_l500, cw_l999, cw_l65536, cd_inN, nI_clamp, nI_add, pk_mul, cw_subc, cw_zz, pk_div, cw_ltN, cw_eqN, cw_tf0, cw_tf1, cw_tfa, cw_bi, cw_bl, cw_bv, if_true, if_false, Bool.false_eq_true, Bool.true_eq_false, ite_self, cw_neg1, cw_m1a, cw_ztl, cw_zeq, cw_zadd, cw_znadd, cw_nzadd, cw_zsub, cw_zmul, cw_znmul, cw_nzmul, cw_ltNZ, cw_eqZN, cw_eqNZ, cw_ltZN, cw_on, cw_os, cw_c0, cw_c1, cw_c2, cw_c3, cw_c4, cw_c5, cw_c8, cw_c10, cw_c40, cw_c80, cw_c100, cp_144z, cp_140n, cw_mabs, cw_mod8, decide_eq_true_eq, not_false_eq_true, not_true_eq_false, true_and, and_true, false_and, and_false, decide_eq_false_iff_not, Nat.not_lt, Nat.not_le, if_pos, if_neg, t2, t4, r1, r4, cw_zd, e178]
        refine cw_m (fun _ => cd_s179_59) ?_
        simp (disch := omega) only [cw_l0, cw_l1, cw_l2, cw_l3, cw_l4, cw_l5, cw_l6, cw_l7, cw_l8, cw_l9, cw_l10, cw_l11, cw_l12, cw_l13, cw_l14, cw_l15, cw_l16, cw_l17, cw_l18, cw_l19, cw_l20, cw_l27, cw_l28, cw_l31, cw_l32, cw_l40, cw_l52, cw_l60, cw_l61, cw_l63, cw_l64, cw_l80, cw_l97, cw_l99, cw_l100, cw_l255, cw_l500, cw_l999, cw_l65536, cd_inN, nI_clamp, nI_add, pk_mul, cw_subc, cw_zz, pk_div, cw_ltN, cw_eqN, cw_tf0, cw_tf1, cw_tfa, cw_bi, cw_bl, cw_bv, if_true, if_false, Bool.false_eq_true, Bool.true_eq_false, ite_self, cw_neg1, cw_m1a, cw_ztl, cw_zeq, cw_zadd, cw_znadd, cw_nzadd, cw_zsub, cw_zmul, cw_znmul, cw_nzmul, cw_ltNZ, cw_eqZN, cw_eqNZ, cw_ltZN, cw_on, cw_os, cw_c0, cw_c1, cw_c2, cw_c3, cw_c4, cw_c5, cw_c8, cw_c10, cw_c40, cw_c80, cw_c100, cp_144z, cp_140n, cw_mabs, cw_mod8, decide_eq_true_eq, not_false_eq_true, not_true_eq_false, true_and, and_true, false_and, and_false, decide_eq_false_iff_not, Nat.not_lt, Nat.not_le]
        exact fin _ _ (fun v hv => ⟨by rw [hv]; rfl, rfl, rfl⟩)
      · by_cases h1 : S 2 k = 1
        · simp (disch := omega) only [cw_l0, cw_l1, cw_l2, cw_l3, cw_l4, cw_l5, cw_l6, cw_l7, cw_l8, cw_l9, cw_l10, cw_l11, cw_l12, cw_l13, cw_l14, cw_l15, cw_l16, cw_l17, cw_l18, cw_l19, cw_l20, cw_l27, cw_l28, cw_l31, cw_l32, cw_l40, cw_l52, cw_l60, cw_l61, cw_l63, cw_l64, cw_l80, cw_l97, cw_l99, cw_l100, cw_l255, cw_l500, cw_l999, cw_l65536, cd_inN, nI_clamp, nI_add, pk_mul, cw_subc, cw_zz, pk_div, cw_ltN, cw_eqN, cw_tf0, cw_tf1, cw_tfa, cw_bi, cw_bl, cw_bv, if_true, if_false, Bool.false_eq_true, Bool.true_eq_false, ite_self, cw_neg1, cw_m1a, cw_ztl, cw_zeq, cw_zadd, cw_znadd, cw_nzadd, cw_zsub, cw_zmul, cw_znmul, cw_nzmul, cw_ltNZ, cw_eqZN, cw_eqNZ, cw_ltZN, cw_on, cw_os, cw_c0, cw_c1, cw_c2, cw_c3, cw_c4, cw_c5, cw_c8, cw_c10, cw_c40, cw_c80, cw_c100, cp_144z, cp_140n, cw_mabs, cw_mod8, decide_eq_true_eq, not_false_eq_true, not_true_eq_false, true_and, and_true, false_and, and_false, decide_eq_false_iff_not, Nat.not_lt, Nat.not_le, if_pos, if_neg, t2, e178]
          refine cw_m (fun _ => cd_s179_59) ?_
          simp (disch := omega) only [cw_l0, cw_l1, cw_l2, cw_l3, cw_l4, cw_l5, cw_l6, cw_l7, cw_l8, cw_l9, cw_l10, cw_l11, cw_l12, cw_l13, cw_l14, cw_l15, cw_l16, cw_l17, cw_l18, cw_l19, cw_l20, cw_l27, cw_l28, cw_l31, cw_l32, cw_l40, cw_l52, cw_l60, cw_l61, cw_l63, cw_l64, cw_l80, cw_l97, cw_l99, cw_l100, cw_l255, cw_l500, cw_l999, cw_l65536, cd_inN, nI_clamp, nI_add, pk_mul, cw_subc, cw_zz, pk_div, cw_ltN, cw_eqN, cw_tf0, cw_tf1, cw_tfa, cw_bi, cw_bl, cw_bv, if_true, if_false, Bool.false_eq_true, Bool.true_eq_false, ite_self, cw_neg1, cw_m1a, cw_ztl, cw_zeq, cw_zadd, cw_znadd, cw_nzadd, cw_zsub, cw_zmul, cw_znmul, cw_nzmul, cw_ltNZ, cw_eqZN, cw_eqNZ, cw_ltZN, cw_on, cw_os, cw_c0, cw_c1, cw_c2, cw_c3, cw_c4, cw_c5, cw_c8, cw_c10, cw_c40, cw_c80, cw_c100, cp_144z, cp_140n, cw_mabs, cw_mod8, decide_eq_true_eq, not_false_eq_true, not_true_eq_false, true_and, and_true, false_and, and_false, decide_eq_false_iff_not, Nat.not_lt, Nat.not_le]
          exact fin _ _ (fun v hv => ⟨by rw [hv]; rfl, rfl, rfl⟩)
        · by_cases h2 : S 2 k = 2
          · simp (disch := omega) only [cw_l0, cw_l1, cw_l2, cw_l3, cw_l4, cw_l5, cw_l6, cw_l7, cw_l8, cw_l9, cw_l10, cw_l11, cw_l12, cw_l13, cw_l14, cw_l15, cw_l16, cw_l17, cw_l18, cw_l19, cw_l20, cw_l27, cw_l28, cw_l31, cw_l32, cw_l40, cw_l52, cw_l60, cw_l61, cw_l63, cw_l64, cw_l80, cw_l97, cw_l99, cw_l100, cw_l255, cw_l500, cw_l999, cw_l65536, cd_inN, nI_clamp, nI_add, pk_mul, cw_subc, cw_zz, pk_div, cw_ltN, cw_eqN, cw_tf0, cw_tf1, cw_tfa, cw_bi, cw_bl, cw_bv, if_true, if_false, Bool.false_eq_true, Bool.true_eq_false, ite_self, cw_neg1, cw_m1a, cw_ztl, cw_zeq, cw_zadd, cw_znadd, cw_nzadd, cw_zsub, cw_zmul, cw_znmul, cw_nzmul, cw_ltNZ, cw_eqZN, cw_eqNZ, cw_ltZN, cw_on, cw_os, cw_c0, cw_c1, cw_c2, cw_c3, cw_c4, cw_c5, cw_c8, cw_c10, cw_c40, cw_c80, cw_c100, cp_144z, cp_140n, cw_mabs, cw_mod8, decide_eq_true_eq, not_false_eq_true, not_true_eq_false, true_and, and_true, false_and, and_false, decide_eq_false_iff_not, Nat.not_lt, Nat.not_le, if_pos, if_neg, t2, t3, e178]
            refine cw_m (fun _ => cd_s179_59) ?_
            simp (disch := omega) only [cw_l0, cw_l1, cw_l2, cw_l3, cw_l4, cw_l5, cw_l6, cw_l7, cw_l8, cw_l9, cw_l10, cw_l11, cw_l12, cw_l13, cw_l14, cw_l15, cw_l16, cw_l17, cw_l18, cw_l19, cw_l20, cw_l27, cw_l28, cw_l31, cw_l32, cw_l40, cw_l52, cw_l60, cw_l61, cw_l63, cw_l64, cw_l80, cw_l97, cw_l99, cw_l100, cw_l255, cw_l500, cw_l999, cw_l65536, cd_inN, nI_clamp, nI_add, pk_mul, cw_subc, cw_zz, pk_div, cw_ltN, cw_eqN, cw_tf0, cw_tf1, cw_tfa, cw_bi, cw_bl, cw_bv, if_true, if_false, Bool.false_eq_true, Bool.true_eq_false, ite_self, cw_neg1, cw_m1a, cw_ztl, cw_zeq, cw_zadd, cw_znadd, cw_nzadd, cw_zsub, cw_zmul, cw_znmul, cw_nzmul, cw_ltNZ, cw_eqZN, cw_eqNZ, cw_ltZN, cw_on, cw_os, cw_c0, cw_c1, cw_c2, cw_c3, cw_c4, cw_c5, cw_c8, cw_c10, cw_c40, cw_c80, cw_c100, cp_144z, cp_140n, cw_mabs, cw_mod8, decide_eq_true_eq, not_false_eq_true, not_true_eq_false, true_and, and_true, false_and, and_false, decide_eq_false_iff_not, Nat.not_lt, Nat.not_le]
            exact fin _ _ (fun v hv => ⟨by rw [hv, Int.natCast_mul]; rfl, rfl, rfl⟩)
          · simp (disch := omega) only [cw_l0, cw_l1, cw_l2, cw_l3, cw_l4, cw_l5, cw_l6, cw_l7, cw_l8, cw_l9, cw_l10, cw_l11, cw_l12, cw_l13, cw_l14, cw_l15, cw_l16, cw_l17, cw_l18, cw_l19, cw_l20, cw_l27, cw_l28, cw_l31, cw_l32, cw_l40, cw_l52, cw_l60, cw_l61, cw_l63, cw_l64, cw_l80, cw_l97, cw_l99, cw_l100, cw_l255, cw_l500, cw_l999, cw_l65536, cd_inN, nI_clamp, nI_add, pk_mul, cw_subc, cw_zz, pk_div, cw_ltN, cw_eqN, cw_tf0, cw_tf1, cw_tfa, cw_bi, cw_bl, cw_bv, if_true, if_false, Bool.false_eq_true, Bool.true_eq_false, ite_self, cw_neg1, cw_m1a, cw_ztl, cw_zeq, cw_zadd, cw_znadd, cw_nzadd, cw_zsub, cw_zmul, cw_znmul, cw_nzmul, cw_ltNZ, cw_eqZN, cw_eqNZ, cw_ltZN, cw_on, cw_os, cw_c0, cw_c1, cw_c2, cw_c3, cw_c4, cw_c5, cw_c8, cw_c10, cw_c40, cw_c80, cw_c100, cp_144z, cp_140n, cw_mabs, cw_mod8, decide_eq_true_eq, not_false_eq_true, not_true_eq_false, true_and, and_true, false_and, and_false, decide_eq_false_iff_not, Nat.not_lt, Nat.not_le, if_pos, if_neg, t2, e178]
            refine cw_m (fun _ => cd_s179_59) ?_
            simp (disch := omega) only [cw_l0, cw_l1, cw_l2, cw_l3, cw_l4, cw_l5, cw_l6, cw_l7, cw_l8, cw_l9, cw_l10, cw_l11, cw_l12, cw_l13, cw_l14, cw_l15, cw_l16, cw_l17, cw_l18, cw_l19, cw_l20, cw_l27, cw_l28, cw_l31, cw_l32, cw_l40, cw_l52, cw_l60, cw_l61, cw_l63, cw_l64, cw_l80, cw_l97, cw_l99, cw_l100, cw_l255, cw_l500, cw_l999, cw_l65536, cd_inN, nI_clamp, nI_add, pk_mul, cw_subc, cw_zz, pk_div, cw_ltN, cw_eqN, cw_tf0, cw_tf1, cw_tfa, cw_bi, cw_bl, cw_bv, if_true, if_false, Bool.false_eq_true, Bool.true_eq_false, ite_self, cw_neg1, cw_m1a, cw_ztl, cw_zeq, cw_zadd, cw_znadd, cw_nzadd, cw_zsub, cw_zmul, cw_znmul, cw_nzmul, cw_ltNZ, cw_eqZN, cw_eqNZ, cw_ltZN, cw_on, cw_os, cw_c0, cw_c1, cw_c2, cw_c3, cw_c4, cw_c5, cw_c8, cw_c10, cw_c40, cw_c80, cw_c100, cp_144z, cp_140n, cw_mabs, cw_mod8, decide_eq_true_eq, not_false_eq_true, not_true_eq_false, true_and, and_true, false_and, and_false, decide_eq_false_iff_not, Nat.not_lt, Nat.not_le]
            exact fin _ _ (fun v hv => ⟨by rw [hv]; rfl, rfl, rfl⟩)
end CDV
