/-! ===== the reference: save, load, rows of kinds ===== -/
section CER
variable {L : Nat} {w : Bool} {I : Nat → Nat → Int32} {J : Nat → Nat → Int64} {D : cd_D} {S : cd_S}
variable {Y : ce_Y}
/-- what the loops of save have laid -/
theorem cp_216 (h8 : D 0 0 ≤ 8) (h12 : D 0 2 ≤ 12) (hT : cd_refS D S I) (hs : I 100 56 = nI (S 0 3)) {i : Nat} (hi : i < 3) : cw L w (cd_c 216 [.ref 100, .int (nI i)] (cd_mm L w I J)) (fun v I1 J1 => v = none ∧ J1 = J ∧ (∀ a k, ¬ (a = 125 ∧ 80 * i ≤ k ∧ k < 80 * i + 60) → I1 a k = I a k) ∧ ce_im D S (80 * i) I1) := by
  refine cw_c (l := [_, _, _, _]) rfl rfl ?_
  refine cw_m (fun _ => cd_s216_0) ?_
  simp (disch := omega) only [cw_l0, cw_l1, cw_l2, cw_l3, cw_l4, cw_l5, cw_l6, cw_l7, cw_l8, cw_l9, cw_l10, cw_l11, cw_l12, cw_l13, cw_l14, cw_l15, cw_l16, cw_l17, cw_l18, cw_l19, cw_l20, cw_l27, cw_l28, cw_l31, cw_l32, cw_l40, cw_l52, cw_l60, cw_l61, cw_l63, cw_l64, cw_l80, cw_l97, cw_l99, cw_l100, cw_l255, cw_l500, cw_l999, cw_l65536, cd_inN, nI_clamp, nI_add, pk_mul, cw_subc, cw_zz, pk_div, cw_ltN, cw_eqN, cw_tf0, cw_tf1, cw_tfa, cw_bi, cw_bl, cw_bv, if_true, if_false, Bool.false_eq_true, Bool.true_eq_false, ite_self, cw_neg1, cw_m1a, cw_ztl, cw_zeq, cw_zadd, cw_znadd, cw_nzadd, cw_zsub, cw_zmul, cw_znmul, cw_nzmul, cw_ltNZ, cw_eqZN, cw_eqNZ, cw_ltZN, cw_on, cw_os, cw_c0, cw_c1, cw_c2, cw_c3, cw_c4, cw_c5, cw_c8, cw_c10, cw_c40, cw_c80, cw_c100, cp_144z, cp_140n, cw_mabs, cw_mod8, decide_eq_true_eq, not_false_eq_true, not_true_eq_false, true_and, and_true, false_and, and_false, decide_eq_false_iff_not, Nat.not_lt, Nat.not_le, show (80 : Int32) = nI 80 from rfl]
  refine cw_up (fun t (I1 : Nat → Nat → Int32) => cd_go 216 6 [.ref 100, .int (nI i), .int (nI (80 * i)), .int (nI t)] [] (cd_mm L w I1 J)) (fun t I1 => (∀ a k, ¬ (a = 125 ∧ 80 * i ≤ k ∧ k < 80 * i + 60) → I1 a k = I a k) ∧ ∀ u, u < t → u < D 0 0 → I1 125 (80 * i + u) = nI (S 1 u) ∧ I1 125 (80 * i + 8 + u) = cd_tf ((S 0 1).testBit u)) 8 ?_ ?_ 0 I (by omega) ⟨fun _ _ _ => rfl, fun u hu => by omega⟩
  · intro I1 ⟨f1, a1⟩
    refine cw_m (fun _ => cd_s216_6) ?_
    simp (disch := omega) only [cw_l0, cw_l1, cw_l2, cw_l3, cw_l4, cw_l5, cw_l6, cw_l7, cw_l8, cw_l9, cw_l10, cw_l11, cw_l12, cw_l13, cw_l14, cw_l15, cw_l16, cw_l17, cw_l18, cw_l19, cw_l20, cw_l27, cw_l28, cw_l31, cw_l32, cw_l40, cw_l52, cw_l60, cw_l61, cw_l63, cw_l64, cw_l80, cw_l97, cw_l99, cw_l100, cw_l255, cw_l500, cw_l999, cw_l65536, cd_inN, nI_clamp, nI_add, pk_mul, cw_subc, cw_zz, pk_div, cw_ltN, cw_eqN, cw_tf0, cw_tf1, cw_tfa, cw_bi, cw_bl, cw_bv, if_true, if_false, Bool.false_eq_true, Bool.true_eq_false, ite_self, cw_neg1, cw_m1a, cw_ztl, cw_zeq, cw_zadd, cw_znadd, cw_nzadd, cw_zsub, cw_zmul, cw_znmul, cw_nzmul, cw_ltNZ, cw_eqZN, cw_eqNZ, cw_ltZN, cw_on, cw_os, cw_c0, cw_c1, cw_c2, cw_c3, cw_c4, cw_c5, cw_c8, cw_c10, cw_c40, cw_c80, cw_c100, cp_144z, cp_140n, cw_mabs, cw_mod8, decide_eq_true_eq, not_false_eq_true, not_true_eq_false, true_and, and_true, false_and, and_false, decide_eq_false_iff_not, Nat.not_lt, Nat.not_le, if_pos, if_neg]
    refine cw_up (fun t (I2 : Nat → Nat → Int32) => cd_go 216 39 [.ref 100, .int (nI i), .int (nI (80 * i)), .int (nI t)] [] (cd_mm L w I2 J)) (fun t I2 => (∀ a k, ¬ (a = 125 ∧ 80 * i ≤ k ∧ k < 80 * i + 60) → I2 a k = I a k) ∧ (∀ u, u < D 0 0 → I2 125 (80 * i + u) = nI (S 1 u) ∧ I2 125 (80 * i + 8 + u) = cd_tf ((S 0 1).testBit u)) ∧ ∀ k, k < t → k < D 0 2 → I2 125 (80 * i + 16 + k) = cd_tf ((S 0 2).testBit k) ∧ I2 125 (80 * i + 28 + k) = nI (S 2 k) ∧ I2 125 (80 * i + 40 + k) = nI (S 3 k)) 12 ?_ ?_ 0 I1 (by omega) ⟨f1, fun u hu => a1 u (by omega) hu, fun u hu => by omega⟩
    · intro I2 ⟨f2, a2, b2⟩
      refine cw_m (fun _ => cd_s216_39) ?_
      simp (disch := omega) only [cw_l0, cw_l1, cw_l2, cw_l3, cw_l4, cw_l5, cw_l6, cw_l7, cw_l8, cw_l9, cw_l10, cw_l11, cw_l12, cw_l13, cw_l14, cw_l15, cw_l16, cw_l17, cw_l18, cw_l19, cw_l20, cw_l27, cw_l28, cw_l31, cw_l32, cw_l40, cw_l52, cw_l60, cw_l61, cw_l63, cw_l64, cw_l80, cw_l97, cw_l99, cw_l100, cw_l255, cw_l500, cw_l999, cw_l65536, cd_inN, nI_clamp, nI_add, pk_mul, cw_subc, cw_zz, pk_div, cw_ltN, cw_eqN, cw_tf0, cw_tf1, cw_tfa, cw_bi, cw_bl, cw_bv, if_true, if_false, Bool.false_eq_true, Bool.true_eq_false, ite_self, cw_neg1, cw_m1a, cw_ztl, cw_zeq, cw_zadd, cw_znadd, cw_nzadd, cw_zsub, cw_zmul, cw_znmul, cw_nzmul, cw_ltNZ, cw_eqZN, cw_eqNZ, cw_ltZN, cw_on, cw_os, cw_c0, cw_c1, cw_c2, cw_c3, cw_c4, cw_c5, cw_c8, cw_c10, cw_c40, cw_c80, cw_c100, cp_144z, cp_140n, cw_mabs, cw_mod8, decide_eq_true_eq, not_false_eq_true, not_true_eq_false, true_and, and_true, false_and, and_false, decide_eq_false_iff_not, Nat.not_lt, Nat.not_le, if_pos, if_neg, f2 100 56 (by omega), hs]
      refine cw_ret ⟨rfl, rfl, fun a k h => ?_, fun u hu => ?_, fun k hk => ?_, ?_⟩
      · rw [cw_uu]
        by_cases ha : a = 125
        · rw [if_pos ha, if_neg (by omega)]; exact f2 a k h
        · rw [if_neg ha]; exact f2 a k h
      · rw [cd_up_k (by omega), cd_up_k (by omega)]; exact a2 u hu
      · rw [cd_up_k (by omega), cd_up_k (by omega), cd_up_k (by omega)]; exact b2 k (by omega) hk
      · exact cd_up_s
    · intro t I2 ht ⟨f2, a2, b2⟩ K
      have K : ∀ x y z : Int32, (t < D 0 2 → x = cd_tf ((S 0 2).testBit t) ∧ y = nI (S 2 t) ∧ z = nI (S 3 t)) → cw L w (cd_go 216 39 [.ref 100, .int (nI i), .int (nI (80 * i)), .int (nI (t + 1))] [] (cd_mm L w (cd_up (cd_up (cd_up I2 125 (80 * i + 16 + t) x) 125 (80 * i + 28 + t) y) 125 (80 * i + 40 + t) z) J)) _ := fun x y z hxyz => K _ ⟨fun a k h => by
          by_cases ha : a = 125
          · subst ha
            rw [cd_up_k (by omega), cd_up_k (by omega), cd_up_k (by omega)]; exact f2 _ k h
          · rw [cd_up_a ha, cd_up_a ha, cd_up_a ha]; exact f2 a k h, fun u hu => by
          rw [cd_up_k (by omega), cd_up_k (by omega), cd_up_k (by omega), cd_up_k (by omega), cd_up_k (by omega), cd_up_k (by omega)]; exact a2 u hu, fun k hk hk2 => by
          by_cases hkt : k = t
          · subst hkt
            rw [cd_up_k (by omega), cd_up_k (by omega), cd_up_s, cd_up_k (show 80 * i + 28 + k ≠ 80 * i + 40 + k by omega), cd_up_s, cd_up_s]
            exact hxyz hk2
          · rw [cd_up_k (by omega), cd_up_k (by omega), cd_up_k (by omega), cd_up_k (by omega), cd_up_k (by omega), cd_up_k (by omega), cd_up_k (by omega), cd_up_k (by omega), cd_up_k (by omega)]
            exact b2 k (by omega) hk2⟩
      have g1 : I2 112 t = I 112 t := f2 _ _ (by omega)
      have g2 : I2 110 t = I 110 t := f2 _ _ (by omega)
      have g3 : I2 111 t = I 111 t := f2 _ _ (by omega)
      refine cw_m (fun _ => cd_s216_39) ?_
      by_cases hz : I 112 t = nI 0
      · simp (disch := omega) only [cw_l0, cw_l1, cw_l2, cw_l3, cw_l4, cw_l5, cw_l6, cw_l7, cw_l8, cw_l9, cw_l10, cw_l11, cw_l12, cw_l13, cw_l14, cw_l15, cw_l16, cw_l17, cw_l18, cw_l19, cw_l20, cw_l27, cw_l28, cw_l31, cw_l32, cw_l40, cw_l52, cw_l60, cw_l61, cw_l63, cw_l64, cw_l80, cw_l97, cw_l99, cw_l100, cw_l255, cw_l500, cw_l999, cw_l65536, cd_inN, nI_clamp, nI_add, pk_mul, cw_subc, cw_zz, pk_div, cw_ltN, cw_eqN, cw_tf0, cw_tf1, cw_tfa, cw_bi, cw_bl, cw_bv, if_true, if_false, Bool.false_eq_true, Bool.true_eq_false, ite_self, cw_neg1, cw_m1a, cw_ztl, cw_zeq, cw_zadd, cw_znadd, cw_nzadd, cw_zsub, cw_zmul, cw_znmul, cw_nzmul, cw_ltNZ, cw_eqZN, cw_eqNZ, cw_ltZN, cw_on, cw_os, cw_c0, cw_c1, cw_c2, cw_c3, cw_c4, cw_c5, cw_c8, cw_c10, cw_c40, cw_c80, cw_c100, cp_144z, cp_140n, cw_mabs, cw_mod8, decide_eq_true_eq, not_false_eq_true, not_true_eq_false, true_and, and_true, false_and, and_false, decide_eq_false_iff_not, Nat.not_lt, Nat.not_le, if_pos, if_neg, cw_uu, g1, g2, g3, hz]
        exact K _ _ _ (fun h => by
          obtain ⟨q1, q2, q3⟩ := hT.2 t h
          refine ⟨?_, q1, q2⟩
          rw [← q3, hz])
      · simp (disch := omega) only [cw_l0, cw_l1, cw_l2, cw_l3, cw_l4, cw_l5, cw_l6, cw_l7, cw_l8, cw_l9, cw_l10, cw_l11, cw_l12, cw_l13, cw_l14, cw_l15, cw_l16, cw_l17, cw_l18, cw_l19, cw_l20, cw_l27, cw_l28, cw_l31, cw_l32, cw_l40, cw_l52, cw_l60, cw_l61, cw_l63, cw_l64, cw_l80, cw_l97, cw_l99, cw_l100, cw_l255, cw_l500, cw_l999, cw_l65536, cd_inN, nI_clamp, nI_add, pk_mul, cw_subc, cw_zz, pk_div, cw_ltN, cw_eqN, cw_tf0, cw_tf1, cw_tfa, cw_bi, cw_bl, cw_bv, if_true, if_false, Bool.false_eq_true, Bool.true_eq_false, ite_self, cw_neg1, cw_m1a, cw_ztl, cw_zeq, cw_zadd, cw_znadd, cw_nzadd, cw_zsub, cw_zmul, cw_znmul, cw_nzmul, cw_ltNZ, cw_eqZN, cw_eqNZ, cw_ltZN, cw_on, cw_os, cw_c0, cw_c1, cw_c2, cw_c3, cw_c4, cw_c5, cw_c8, cw_c10, cw_c40, cw_c80, cw_c100, cp_144z, cp_140n, cw_mabs, cw_mod8, decide_eq_true_eq, not_false_eq_true, not_true_eq_false, true_and, and_true, false_and, and_false, decide_eq_false_iff_not, Nat.not_lt, Nat.not_le, if_pos, if_neg, cw_uu, g1, g2, g3, hz]
        exact K _ _ _ (fun h => by
          obtain ⟨q1, q2, q3⟩ := hT.2 t h
          refine ⟨?_, q1, q2⟩
          rw [q3] at hz
          cases hb : (S 0 2).testBit t with
          | true => rfl
          | false => rw [hb] at hz; exact absurd rfl hz)
  · intro t I1 ht ⟨f1, a1⟩ K
    have K : ∀ x y : Int32, (t < D 0 0 → x = nI (S 1 t) ∧ y = cd_tf ((S 0 1).testBit t)) → cw L w (cd_go 216 6 [.ref 100, .int (nI i), .int (nI (80 * i)), .int (nI (t + 1))] [] (cd_mm L w (cd_up (cd_up I1 125 (80 * i + t) x) 125 (80 * i + 8 + t) y) J)) _ := fun x y hxy => K _ ⟨fun a k h => by
        by_cases ha : a = 125
        · subst ha
          rw [cd_up_k (by omega), cd_up_k (by omega)]; exact f1 _ k h
        · rw [cd_up_a ha, cd_up_a ha]; exact f1 a k h, fun u hu hu2 => by
        by_cases hut : u = t
        · subst hut
          rw [cd_up_k (by omega), cd_up_s, cd_up_s]
          exact hxy hu2
        · rw [cd_up_k (by omega), cd_up_k (by omega), cd_up_k (by omega), cd_up_k (by omega)]
          exact a1 u (by omega) hu2⟩
    have g1 : I1 101 t = I 101 t := f1 _ _ (by omega)
    have g2 : I1 106 t = I 106 t := f1 _ _ (by omega)
    refine cw_m (fun _ => cd_s216_6) ?_
    by_cases hz : I 106 t = nI 0
    · simp (disch := omega) only [cw_l0, cw_l1, cw_l2, cw_l3, cw_l4, cw_l5, cw_l6, cw_l7, cw_l8, cw_l9, cw_l10, cw_l11, cw_l12, cw_l13, cw_l14, cw_l15, cw_l16, cw_l17, cw_l18, cw_l19, cw_l20, cw_l27, cw_l28, cw_l31, cw_l32, cw_l40, cw_l52, cw_l60, cw_l61, cw_l63, cw_l64, cw_l80, cw_l97, cw_l99, cw_l100, cw_l255, cw_l500, cw_l999, cw_l65536, cd_inN, nI_clamp, nI_add, pk_mul, cw_subc, cw_zz, pk_div, cw_ltN, cw_eqN, cw_tf0, cw_tf1, cw_tfa, cw_bi, cw_bl, cw_bv, if_true, if_false, Bool.false_eq_true, Bool.true_eq_false, ite_self, cw_neg1, cw_m1a, cw_ztl, cw_zeq, cw_zadd, cw_znadd, cw_nzadd, cw_zsub, cw_zmul, cw_znmul, cw_nzmul, cw_ltNZ, cw_eqZN, cw_eqNZ, cw_ltZN, cw_on, cw_os, cw_c0, cw_c1, cw_c2, cw_c3, cw_c4, cw_c5, cw_c8, cw_c10, cw_c40, cw_c80, cw_c100, cp_144z, cp_140n, cw_mabs, cw_mod8, decide_eq_true_eq, not_false_eq_true, not_true_eq_false, true_and, and_true, false_and, and_false, decide_eq_false_iff_not, Nat.not_lt, Nat.not_le, if_pos, if_neg, cw_uu, g1, g2, hz]
      exact K _ _ (fun h => by
        obtain ⟨q1, q2⟩ := hT.1 t h
        refine ⟨q1, ?_⟩
        rw [← q2, hz])
    · simp (disch := omega) only [cw_l0, cw_l1, cw_l2, cw_l3, cw_l4, cw_l5, cw_l6, cw_l7, cw_l8, cw_l9, cw_l10, cw_l11, cw_l12, cw_l13, cw_l14, cw_l15, cw_l16, cw_l17, cw_l18, cw_l19, cw_l20, cw_l27, cw_l28, cw_l31, cw_l32, cw_l40, cw_l52, cw_l60, cw_l61, cw_l63, cw_l64, cw_l80, cw_l97, cw_l99, cw_l100, cw_l255, cw_l500, cw_l999, cw_l65536, cd_inN, nI_clamp, nI_add, pk_mul, cw_subc, cw_zz, pk_div, cw_ltN, cw_eqN, cw_tf0, cw_tf1, cw_tfa, cw_bi, cw_bl, cw_bv, if_true, if_false, Bool.false_eq_true, Bool.true_eq_false, ite_self, cw_neg1, cw_m1a, cw_ztl, cw_zeq, cw_zadd, cw_znadd, cw_nzadd, cw_zsub, cw_zmul, cw_znmul, cw_nzmul, cw_ltNZ, cw_eqZN, cw_eqNZ, cw_ltZN, cw_on, cw_os, cw_c0, cw_c1, cw_c2, cw_c3, cw_c4, cw_c5, cw_c8, cw_c10, cw_c40, cw_c80, cw_c100, cp_144z, cp_140n, cw_mabs, cw_mod8, decide_eq_true_eq, not_false_eq_true, not_true_eq_false, true_and, and_true, false_and, and_false, decide_eq_false_iff_not, Nat.not_lt, Nat.not_le, if_pos, if_neg, cw_uu, g1, g2, hz]
      exact K _ _ (fun h => by
        obtain ⟨q1, q2⟩ := hT.1 t h
        refine ⟨q1, ?_⟩
        rw [q2] at hz
        cases hb : (S 0 1).testBit t with
        | true => rfl
        | false => rw [hb] at hz; exact absurd rfl hz)
/-- load -/
theorem cp_217 (h8 : D 0 0 ≤ 8) (h12 : D 0 2 ≤ 12) {i : Nat} (hi : i < 3) (hm : ce_im D S (80 * i) I) : cw L w (cd_c 217 [.ref 100, .int (nI i)] (cd_mm L w I J)) (fun v I1 J1 => v = none ∧ J1 = J ∧ (∀ a k, ¬ (a = 101 ∨ a = 106 ∨ a = 110 ∨ a = 111 ∨ a = 112 ∨ (a = 100 ∧ k = 56)) → I1 a k = I a k) ∧ cd_refS D S I1 ∧ I1 100 56 = nI (S 0 3)) := by
  refine cw_c (l := [_, _, _, _]) rfl rfl ?_
  refine cw_m (fun _ => cd_s217_0) ?_
  simp (disch := omega) only [cw_l0, cw_l1, cw_l2, cw_l3, cw_l4, cw_l5, cw_l6, cw_l7, cw_l8, cw_l9, cw_l10, cw_l11, cw_l12, cw_l13, cw_l14, cw_l15, cw_l16, cw_l17, cw_l18, cw_l19, cw_l20, cw_l27, cw_l28, cw_l31, cw_l32, cw_l40, cw_l52, cw_l60, cw_l61, cw_l63, cw_l64, cw_l80, cw_l97, cw_l99, cw_l100, cw_l255, cw_l500, cw_l999, cw_l65536, cd_inN, nI_clamp, nI_add, pk_mul, cw_subc, cw_zz, pk_div, cw_ltN, cw_eqN, cw_tf0, cw_tf1, cw_tfa, cw_bi, cw_bl, cw_bv, if_true, if_false, Bool.false_eq_true, Bool.true_eq_false, ite_self, cw_neg1, cw_m1a, cw_ztl, cw_zeq, cw_zadd, cw_znadd, cw_nzadd, cw_zsub, cw_zmul, cw_znmul, cw_nzmul, cw_ltNZ, cw_eqZN, cw_eqNZ, cw_ltZN, cw_on, cw_os, cw_c0, cw_c1, cw_c2, cw_c3, cw_c4, cw_c5, cw_c8, cw_c10, cw_c40, cw_c80, cw_c100, cp_144z, cp_140n, cw_mabs, cw_mod8, decide_eq_true_eq, not_false_eq_true, not_true_eq_false, true_and, and_true, false_and, and_false, decide_eq_false_iff_not, Nat.not_lt, Nat.not_le, show (80 : Int32) = nI 80 from rfl]
  refine cw_up (fun t (I1 : Nat → Nat → Int32) => cd_go 217 6 [.ref 100, .int (nI i), .int (nI (80 * i)), .int (nI t)] [] (cd_mm L w I1 J)) (fun t I1 => (∀ a k, ¬ (a = 101 ∨ a = 106) → I1 a k = I a k) ∧ ∀ u, u < t → u < D 0 0 → I1 101 u = nI (S 1 u) ∧ I1 106 u = cd_tf ((S 0 1).testBit u)) 8 ?_ ?_ 0 I (by omega) ⟨fun _ _ _ => rfl, fun u hu => by omega⟩
  · intro I1 ⟨f1, a1⟩
    refine cw_m (fun _ => cd_s217_6) ?_
    simp (disch := omega) only [cw_l0, cw_l1, cw_l2, cw_l3, cw_l4, cw_l5, cw_l6, cw_l7, cw_l8, cw_l9, cw_l10, cw_l11, cw_l12, cw_l13, cw_l14, cw_l15, cw_l16, cw_l17, cw_l18, cw_l19, cw_l20, cw_l27, cw_l28, cw_l31, cw_l32, cw_l40, cw_l52, cw_l60, cw_l61, cw_l63, cw_l64, cw_l80, cw_l97, cw_l99, cw_l100, cw_l255, cw_l500, cw_l999, cw_l65536, cd_inN, nI_clamp, nI_add, pk_mul, cw_subc, cw_zz, pk_div, cw_ltN, cw_eqN, cw_tf0, cw_tf1, cw_tfa, cw_bi, cw_bl, cw_bv, if_true, if_false, Bool.false_eq_true, Bool.true_eq_false, ite_self, cw_neg1, cw_m1a, cw_ztl, cw_zeq, cw_zadd, cw_znadd, cw_nzadd, cw_zsub, cw_zmul, cw_znmul, cw_nzmul, cw_ltNZ, cw_eqZN, cw_eqNZ, cw_ltZN, cw_on, cw_os, cw_c0, cw_c1, cw_c2, cw_c3, cw_c4, cw_c5, cw_c8, cw_c10, cw_c40, cw_c80, cw_c100, cp_144z, cp_140n, cw_mabs, cw_mod8, decide_eq_true_eq, not_false_eq_true, not_true_eq_false, true_and, and_true, false_and, and_false, decide_eq_false_iff_not, Nat.not_lt, Nat.not_le, if_pos, if_neg]
    refine cw_up (fun t (I2 : Nat → Nat → Int32) => cd_go 217 40 [.ref 100, .int (nI i), .int (nI (80 * i)), .int (nI t)] [] (cd_mm L w I2 J)) (fun t I2 => (∀ a k, ¬ (a = 101 ∨ a = 106 ∨ a = 110 ∨ a = 111 ∨ a = 112) → I2 a k = I a k) ∧ (∀ u, u < D 0 0 → I2 101 u = nI (S 1 u) ∧ I2 106 u = cd_tf ((S 0 1).testBit u)) ∧ ∀ k, k < t → k < D 0 2 → I2 110 k = nI (S 2 k) ∧ I2 111 k = nI (S 3 k) ∧ I2 112 k = cd_tf ((S 0 2).testBit k)) 12 ?_ ?_ 0 I1 (by omega) ⟨fun a k h => f1 a k (by omega), fun u hu => a1 u (by omega) hu, fun u hu => by omega⟩
    · intro I2 ⟨f2, a2, b2⟩
      refine cw_m (fun _ => cd_s217_40) ?_
      simp (disch := omega) only [cw_l0, cw_l1, cw_l2, cw_l3, cw_l4, cw_l5, cw_l6, cw_l7, cw_l8, cw_l9, cw_l10, cw_l11, cw_l12, cw_l13, cw_l14, cw_l15, cw_l16, cw_l17, cw_l18, cw_l19, cw_l20, cw_l27, cw_l28, cw_l31, cw_l32, cw_l40, cw_l52, cw_l60, cw_l61, cw_l63, cw_l64, cw_l80, cw_l97, cw_l99, cw_l100, cw_l255, cw_l500, cw_l999, cw_l65536, cd_inN, nI_clamp, nI_add, pk_mul, cw_subc, cw_zz, pk_div, cw_ltN, cw_eqN, cw_tf0, cw_tf1, cw_tfa, cw_bi, cw_bl, cw_bv, if_true, if_false, Bool.false_eq_true, Bool.true_eq_false, ite_self, cw_neg1, cw_m1a, cw_ztl, cw_zeq, cw_zadd, cw_znadd, cw_nzadd, cw_zsub, cw_zmul, cw_znmul, cw_nzmul, cw_ltNZ, cw_eqZN, cw_eqNZ, cw_ltZN, cw_on, cw_os, cw_c0, cw_c1, cw_c2, cw_c3, cw_c4, cw_c5, cw_c8, cw_c10, cw_c40, cw_c80, cw_c100, cp_144z, cp_140n, cw_mabs, cw_mod8, decide_eq_true_eq, not_false_eq_true, not_true_eq_false, true_and, and_true, false_and, and_false, decide_eq_false_iff_not, Nat.not_lt, Nat.not_le, if_pos, if_neg, f2 125 (80 * i + 52) (by omega), hm.2.2]
      refine cw_ret ⟨rfl, rfl, fun a k h => ?_, ⟨fun u hu => ?_, fun k hk => ?_⟩, cd_up_s⟩
      · rw [cw_uu]
        by_cases ha : a = 100
        · rw [if_pos ha, if_neg (by omega)]; exact f2 a k (by omega)
        · rw [if_neg ha]; exact f2 a k (by omega)
      · rw [cd_up_a (by decide), cd_up_a (by decide)]; exact a2 u hu
      · rw [cd_up_a (by decide), cd_up_a (by decide), cd_up_a (by decide)]; exact b2 k (by omega) hk
    · intro t I2 ht ⟨f2, a2, b2⟩ K
      have K : ∀ x y z : Int32, (t < D 0 2 → x = cd_tf ((S 0 2).testBit t) ∧ y = nI (S 2 t) ∧ z = nI (S 3 t)) → cw L w (cd_go 217 40 [.ref 100, .int (nI i), .int (nI (80 * i)), .int (nI (t + 1))] [] (cd_mm L w (cd_up (cd_up (cd_up I2 112 t x) 110 t y) 111 t z) J)) _ := fun x y z hxyz => K _ ⟨fun a k h => by
          rw [cd_up_a (by omega), cd_up_a (by omega), cd_up_a (by omega)]; exact f2 a k h, fun u hu => by
          rw [cd_up_a (by decide), cd_up_a (by decide), cd_up_a (by decide), cd_up_a (by decide), cd_up_a (by decide), cd_up_a (by decide)]; exact a2 u hu, fun k hk hk2 => by
          by_cases hkt : k = t
          · subst hkt
            rw [cd_up_a (show (110 : Nat) ≠ 111 by decide), cd_up_s, cd_up_s, cd_up_a (show (112 : Nat) ≠ 111 by decide), cd_up_a (show (112 : Nat) ≠ 110 by decide), cd_up_s]
            obtain ⟨q1, q2, q3⟩ := hxyz hk2
            exact ⟨q2, q3, q1⟩
          · rw [cd_up_k hkt, cd_up_k hkt, cd_up_k hkt, cd_up_k hkt, cd_up_k hkt, cd_up_k hkt, cd_up_k hkt, cd_up_k hkt, cd_up_k hkt]
            exact b2 k (by omega) hk2⟩
      have g : ∀ k, I2 125 k = I 125 k := fun k => f2 _ _ (by omega)
      refine cw_m (fun _ => cd_s217_40) ?_
      by_cases hz : I 125 (80 * i + 16 + t) = nI 1
      · simp (disch := omega) only [cw_l0, cw_l1, cw_l2, cw_l3, cw_l4, cw_l5, cw_l6, cw_l7, cw_l8, cw_l9, cw_l10, cw_l11, cw_l12, cw_l13, cw_l14, cw_l15, cw_l16, cw_l17, cw_l18, cw_l19, cw_l20, cw_l27, cw_l28, cw_l31, cw_l32, cw_l40, cw_l52, cw_l60, cw_l61, cw_l63, cw_l64, cw_l80, cw_l97, cw_l99, cw_l100, cw_l255, cw_l500, cw_l999, cw_l65536, cd_inN, nI_clamp, nI_add, pk_mul, cw_subc, cw_zz, pk_div, cw_ltN, cw_eqN, cw_tf0, cw_tf1, cw_tfa, cw_bi, cw_bl, cw_bv, if_true, if_false, Bool.false_eq_true, Bool.true_eq_false, ite_self, cw_neg1, cw_m1a, cw_ztl, cw_zeq, cw_zadd, cw_znadd, cw_nzadd, cw_zsub, cw_zmul, cw_znmul, cw_nzmul, cw_ltNZ, cw_eqZN, cw_eqNZ, cw_ltZN, cw_on, cw_os, cw_c0, cw_c1, cw_c2, cw_c3, cw_c4, cw_c5, cw_c8, cw_c10, cw_c40, cw_c80, cw_c100, cp_144z, cp_140n, cw_mabs, cw_mod8, decide_eq_true_eq, not_false_eq_true, not_true_eq_false, true_and, and_true, false_and, and_false, decide_eq_false_iff_not, Nat.not_lt, Nat.not_le, if_pos, if_neg, cw_uu, g, hz]
        exact K _ _ _ (fun h => by
          obtain ⟨q1, q2, q3⟩ := hm.2.1 t h
          refine ⟨?_, q2, q3⟩
          rw [← q1, hz])
      · simp (disch := omega) only [cw_l0, cw_l1, cw_l2, cw_l3, cw_l4, cw_l5, cw_l6, cw_l7, cw_l8, cw_l9, cw_l10, cw_l11, cw_l12, cw_l13, cw_l14, cw_l15, cw_l16, cw_l17, cw_l18, cw_l19, cw_l20, cw_l27, cw_l28, cw_l31, cw_l32, cw_l40, cw_l52, cw_l60, cw_l61, cw_l63, cw_l64, cw_l80, cw_l97, cw_l99, cw_l100, cw_l255, cw_l500, cw_l999, cw_l65536, cd_inN, nI_clamp, nI_add, pk_mul, cw_subc, cw_zz, pk_div, cw_ltN, cw_eqN, cw_tf0, cw_tf1, cw_tfa, cw_bi, cw_bl, cw_bv, if_true, if_false, Bool.false_eq_true, Bool.true_eq_false, ite_self, cw_neg1, cw_m1a, cw_ztl, cw_zeq, cw_zadd, cw_znadd, cw_nzadd, cw_zsub, cw_zmul, cw_znmul, cw_nzmul, cw_ltNZ, cw_eqZN, cw_eqNZ, cw_ltZN, cw_on, cw_os, cw_c0, cw_c1, cw_c2, cw_c3, cw_c4, cw_c5, cw_c8, cw_c10, cw_c40, cw_c80, cw_c100, cp_144z, cp_140n, cw_mabs, cw_mod8, decide_eq_true_eq, not_false_eq_true, not_true_eq_false, true_and, and_true, false_and, and_false, decide_eq_false_iff_not, Nat.not_lt, Nat.not_le, if_pos, if_neg, cw_uu, g, hz]
        exact K _ _ _ (fun h => by
          obtain ⟨q1, q2, q3⟩ := hm.2.1 t h
          refine ⟨?_, q2, q3⟩
          rw [q1] at hz
          cases hb : (S 0 2).testBit t with
          | false => rfl
          | true => rw [hb] at hz; exact absurd rfl hz)
  · intro t I1 ht ⟨f1, a1⟩ K
    have K : ∀ x y : Int32, (t < D 0 0 → x = nI (S 1 t) ∧ y = cd_tf ((S 0 1).testBit t)) → cw L w (cd_go 217 6 [.ref 100, .int (nI i), .int (nI (80 * i)), .int (nI (t + 1))] [] (cd_mm L w (cd_up (cd_up I1 101 t x) 106 t y) J)) _ := fun x y hxy => K _ ⟨fun a k h => by
        rw [cd_up_a (by omega), cd_up_a (by omega)]; exact f1 a k h, fun u hu hu2 => by
        by_cases hut : u = t
        · subst hut
          rw [cd_up_a (show (101 : Nat) ≠ 106 by decide), cd_up_s, cd_up_s]
          exact hxy hu2
        · rw [cd_up_k hut, cd_up_k hut, cd_up_k hut, cd_up_k hut]
          exact a1 u (by omega) hu2⟩
    have g : ∀ k, I1 125 k = I 125 k := fun k => f1 _ _ (by omega)
    refine cw_m (fun _ => cd_s217_6) ?_
    by_cases hz : I 125 (80 * i + 8 + t) = nI 1
    · simp (disch := omega) only [cw_l0, cw_l1, cw_l2, cw_l3, cw_l4, cw_l5, cw_l6, cw_l7, cw_l8, cw_l9, cw_l10, cw_l11, cw_l12, cw_l13, cw_l14, cw_l15, cw_l16, cw_l17, cw_l18, cw_l19, cw_l20, cw_l27, cw_l28, cw_l31, cw_l32, cw_l40, cw_l52, cw_l60, cw_l61, cw_l63, cw_l64, cw_l80, cw_l97, cw_l99, cw_l100, cw_l255, cw_l500, cw_l999, cw_l65536, cd_inN, nI_clamp, nI_add, pk_mul, cw_subc, cw_zz, pk_div, cw_ltN, cw_eqN, cw_tf0, cw_tf1, cw_tfa, cw_bi, cw_bl, cw_bv, if_true, if_false, Bool.false_eq_true, Bool.true_eq_false, ite_self, cw_neg1, cw_m1a, cw_ztl, cw_zeq, cw_zadd, cw_znadd, cw_nzadd, cw_zsub, cw_zmul, cw_znmul, cw_nzmul, cw_ltNZ, cw_eqZN, cw_eqNZ, cw_ltZN, cw_on, cw_os, cw_c0, cw_c1, cw_c2, cw_c3, cw_c4, cw_c5, cw_c8, cw_c10, cw_c40, cw_c80, cw_c100, cp_144z, cp_140n, cw_mabs, cw_mod8, decide_eq_true_eq, not_false_eq_true, not_true_eq_false, true_and, and_true, false_and, and_false, decide_eq_false_iff_not, Nat.not_lt, Nat.not_le, if_pos, if_neg, cw_uu, g, hz]
      exact K _ _ (fun h => by
        obtain ⟨q1, q2⟩ := hm.1 t h
        refine ⟨q1, ?_⟩
        rw [← q2, hz])
    · simp (disch := omega) only [cw_l0, cw_l1, cw_l2, cw_l3, cw_l4, cw_l5, cw_l6, cw_l7, cw_l8, cw_l9, cw_l10, cw_l11, cw_l12, cw_l13, cw_l14, cw_l15, cw_l16, cw_l17, cw_l18, cw_l19, cw_l20, cw_l27, cw_l28, cw_l31, cw_l32, cw_l40, cw_l52, cw_l60, cw_l61, cw_l63, cw_l64, cw_l80, cw_l97, cw_l99, cw_l100, cw_l255, cw_l500, cw_l999, cw_l65536, cd_inN, nI_clamp, nI_add, pk_mul, cw_subc, cw_zz, pk_div, cw_ltN, cw_eqN, cw_tf0, cw_tf1, cw_tfa, cw_bi, cw_bl, cw_bv, if_true, if_false, Bool.false_eq_true, Bool.true_eq_false, ite_self, cw_neg1, cw_m1a, cw_ztl, cw_zeq, cw_zadd, cw_znadd, cw_nzadd, cw_zsub, cw_zmul, cw_znmul, cw_nzmul, cw_ltNZ, cw_eqZN, cw_eqNZ, cw_ltZN, cw_on, cw_os, cw_c0, cw_c1, cw_c2, cw_c3, cw_c4, cw_c5, cw_c8, cw_c10, cw_c40, cw_c80, cw_c100, cp_144z, cp_140n, cw_mabs, cw_mod8, decide_eq_true_eq, not_false_eq_true, not_true_eq_false, true_and, and_true, false_and, and_false, decide_eq_false_iff_not, Nat.not_lt, Nat.not_le, if_pos, if_neg, cw_uu, g, hz]
      exact K _ _ (fun h => by
        obtain ⟨q1, q2⟩ := hm.1 t h
        refine ⟨q1, ?_⟩
        rw [q2] at hz
        cases hb : (S 0 1).testBit t with
        | false => rfl
        | true => rw [hb] at hz; exact absurd rfl hz)
theorem cp_220 {b n : Nat} (hb : b ≤ 3) (hn : n ≤ 12) : cd_c 220 [.int (nI b), .int (nI n)] (cd_mm L w I J) = some (some (.int (nI (b ^ n))), cd_mm L w I J) := by
  refine cw_eq ?_
  refine cw_c (l := [_, _, _, _]) rfl rfl ?_
  refine cw_m (fun _ => cd_s220_0) ?_
  refine cw_up (fun i (_ : Unit) => cd_go 220 4 [.int (nI b), .int (nI n), .int (nI (b ^ i)), .int (nI i)] [] (cd_mm L w I J)) (fun _ _ => True) n ?_ ?_ 0 () (by omega) trivial
  · intro _ _
    refine cw_m (fun _ => cd_s220_4) ?_
    simp (disch := omega) only [cw_l0, cw_l1, cw_l2, cw_l3, cw_l4, cw_l5, cw_l6, cw_l7, cw_l8, cw_l9, cw_l10, cw_l11, cw_l12, cw_l13, cw_l14, cw_l15, cw_l16, cw_l17, cw_l18, cw_l19, cw_l20, cw_l27, cw_l28, cw_l31, cw_l32, cw_l40, cw_l52, cw_l60, cw_l61, cw_l63, cw_l64, cw_l80, cw_l97, cw_l99, cw_l100, cw_l255, cw_l500, cw_l999, cw_l65536, cd_inN, nI_clamp, nI_add, pk_mul, cw_subc, cw_zz, pk_div, cw_ltN, cw_eqN, cw_tf0, cw_tf1, cw_tfa, cw_bi, cw_bl, cw_bv, if_true, if_false, Bool.false_eq_true, Bool.true_eq_false, ite_self, cw_neg1, cw_m1a, cw_ztl, cw_zeq, cw_zadd, cw_znadd, cw_nzadd, cw_zsub, cw_zmul, cw_znmul, cw_nzmul, cw_ltNZ, cw_eqZN, cw_eqNZ, cw_ltZN, cw_on, cw_os, cw_c0, cw_c1, cw_c2, cw_c3, cw_c4, cw_c5, cw_c8, cw_c10, cw_c40, cw_c80, cw_c100, cp_144z, cp_140n, cw_mabs, cw_mod8, decide_eq_true_eq, not_false_eq_true, not_true_eq_false, true_and, and_true, false_and, and_false, decide_eq_false_iff_not, Nat.not_lt, Nat.not_le, if_pos, if_neg]
    exact cw_ret ⟨rfl, rfl, rfl⟩
  · intro i _ hi _ K
    have K := K () trivial
    rw [Nat.pow_succ] at K
    refine cw_m (fun _ => cd_s220_4) ?_
    simp (disch := omega) only [cw_l0, cw_l1, cw_l2, cw_l3, cw_l4, cw_l5, cw_l6, cw_l7, cw_l8, cw_l9, cw_l10, cw_l11, cw_l12, cw_l13, cw_l14, cw_l15, cw_l16, cw_l17, cw_l18, cw_l19, cw_l20, cw_l27, cw_l28, cw_l31, cw_l32, cw_l40, cw_l52, cw_l60, cw_l61, cw_l63, cw_l64, cw_l80, cw_l97, cw_l99, cw_l100, cw_l255, cw_l500, cw_l999, cw_l65536, cd_inN, nI_clamp, nI_add, pk_mul, cw_subc, cw_zz, pk_div, cw_ltN, cw_eqN, cw_tf0, cw_tf1, cw_tfa, cw_bi, cw_bl, cw_bv, if_true, if_false, Bool.false_eq_true, Bool.true_eq_false, ite_self, cw_neg1, cw_m1a, cw_ztl, cw_zeq, cw_zadd, cw_znadd, cw_nzadd, cw_zsub, cw_zmul, cw_znmul, cw_nzmul, cw_ltNZ, cw_eqZN, cw_eqNZ, cw_ltZN, cw_on, cw_os, cw_c0, cw_c1, cw_c2, cw_c3, cw_c4, cw_c5, cw_c8, cw_c10, cw_c40, cw_c80, cw_c100, cp_144z, cp_140n, cw_mabs, cw_mod8, decide_eq_true_eq, not_false_eq_true, not_true_eq_false, true_and, and_true, false_and, and_false, decide_eq_false_iff_not, Nat.not_lt, Nat.not_le, if_pos, if_neg]
    exact K
theorem cp_219 (hD : cd_okD D) (hS : cd_okS D S) (hR : cd_refD D I) (hT : cd_refS D S I) {q : Nat} (hq : q < 10) : cd_c 219 [.ref 100, .int (nI q)] (cd_mm L w I J) = some (some (.int (nI (fa_cnt (fun k => Nat.beq (S 2 k) q) (D 0 2)))), cd_mm L w I J) := by
  refine cw_eq ?_
  have h12 := hD.1.2.2.1
  have r9 := hR.1.2.2.1
  refine cw_c (l := [_, _, _, _]) rfl rfl ?_
  refine cw_m (fun _ => cd_s219_0) ?_
  refine cw_up (fun i (_ : Unit) => cd_go 219 4 [.ref 100, .int (nI q), .int (nI (fa_cnt (fun k => Nat.beq (S 2 k) q) i)), .int (nI i)] [] (cd_mm L w I J)) (fun _ _ => True) (D 0 2) ?_ ?_ 0 () (by omega) trivial
  · intro _ _
    refine cw_m (fun _ => cd_s219_4) ?_
    simp (disch := omega) only [cw_l0, cw_l1, cw_l2, cw_l3, cw_l4, cw_l5, cw_l6, cw_l7, cw_l8, cw_l9, cw_l10, cw_l11, cw_l12, cw_l13, cw_l14, cw_l15, cw_l16, cw_l17, cw_l18, cw_l19, cw_l20, cw_l27, cw_l28, cw_l31, cw_l32, cw_l40, cw_l52, cw_l60, cw_l61, cw_l63, cw_l64, cw_l80, cw_l97, cw_l99, cw_l100, cw_l255, cw_l500, cw_l999, cw_l65536, cd_inN, nI_clamp, nI_add, pk_mul, cw_subc, cw_zz, pk_div, cw_ltN, cw_eqN, cw_tf0, cw_tf1, cw_tfa, cw_bi, cw_bl, cw_bv, if_true, if_false, Bool.false_eq_true, Bool.true_eq_false, ite_self, cw_neg1, cw_m1a, cw_ztl, cw_zeq, cw_zadd, cw_znadd, cw_nzadd, cw_zsub, cw_zmul, cw_znmul, cw_nzmul, cw_ltNZ, cw_eqZN, cw_eqNZ, cw_ltZN, cw_on, cw_os, cw_c0, cw_c1, cw_c2, cw_c3, cw_c4, cw_c5, cw_c8, cw_c10, cw_c40, cw_c80, cw_c100, cp_144z, cp_140n, cw_mabs, cw_mod8, decide_eq_true_eq, not_false_eq_true, not_true_eq_false, true_and, and_true, false_and, and_false, decide_eq_false_iff_not, Nat.not_lt, Nat.not_le, if_pos, if_neg, r9]
    exact cw_ret ⟨rfl, rfl, rfl⟩
  · intro i _ hi _ K
    have K := K () trivial
    rw [ce_cnt_s, cw_beq] at K
    have t2 := (hT.2 i hi).1
    have s2 := (hS.2.2.2 i hi).1
    refine cw_m (fun _ => cd_s219_4) ?_
    by_cases hz : S 2 i = q
    · rw [decide_eq_true hz] at K
      simp (disch := omega) only [cw_l0, cw_l1, cw_l2, cw_l3, cw_l4, cw_l5, cw_l6, cw_l7, cw_l8, cw_l9, cw_l10, cw_l11, cw_l12, cw_l13, cw_l14, cw_l15, cw_l16, cw_l17, cw_l18, cw_l19, cw_l20, cw_l27, cw_l28, cw_l31, cw_l32, cw_l40, cw_l52, cw_l60, cw_l61, cw_l63, cw_l64, cw_l80, cw_l97, cw_l99, cw_l100, cw_l255, cw_l500, cw_l999, cw_l65536, cd_inN, nI_clamp, nI_add, pk_mul, cw_subc, cw_zz, pk_div, cw_ltN, cw_eqN, cw_tf0, cw_tf1, cw_tfa, cw_bi, cw_bl, cw_bv, if_true, if_false, Bool.false_eq_true, Bool.true_eq_false, ite_self, cw_neg1, cw_m1a, cw_ztl, cw_zeq, cw_zadd, cw_znadd, cw_nzadd, cw_zsub, cw_zmul, cw_znmul, cw_nzmul, cw_ltNZ, cw_eqZN, cw_eqNZ, cw_ltZN, cw_on, cw_os, cw_c0, cw_c1, cw_c2, cw_c3, cw_c4, cw_c5, cw_c8, cw_c10, cw_c40, cw_c80, cw_c100, cp_144z, cp_140n, cw_mabs, cw_mod8, decide_eq_true_eq, not_false_eq_true, not_true_eq_false, true_and, and_true, false_and, and_false, decide_eq_false_iff_not, Nat.not_lt, Nat.not_le, if_pos, if_neg, r9, t2]
      exact K
    · rw [decide_eq_false hz] at K
      simp (disch := omega) only [cw_l0, cw_l1, cw_l2, cw_l3, cw_l4, cw_l5, cw_l6, cw_l7, cw_l8, cw_l9, cw_l10, cw_l11, cw_l12, cw_l13, cw_l14, cw_l15, cw_l16, cw_l17, cw_l18, cw_l19, cw_l20, cw_l27, cw_l28, cw_l31, cw_l32, cw_l40, cw_l52, cw_l60, cw_l61, cw_l63, cw_l64, cw_l80, cw_l97, cw_l99, cw_l100, cw_l255, cw_l500, cw_l999, cw_l65536, cd_inN, nI_clamp, nI_add, pk_mul, cw_subc, cw_zz, pk_div, cw_ltN, cw_eqN, cw_tf0, cw_tf1, cw_tfa, cw_bi, cw_bl, cw_bv, if_true, if_false, Bool.false_eq_true, Bool.true_eq_false, ite_self, cw_neg1, cw_m1a, cw_ztl, cw_zeq, cw_zadd, cw_znadd, cw_nzadd, cw_zsub, cw_zmul, cw_znmul, cw_nzmul, cw_ltNZ, cw_eqZN, cw_eqNZ, cw_ltZN, cw_on, cw_os, cw_c0, cw_c1, cw_c2, cw_c3, cw_c4, cw_c5, cw_c8, cw_c10, cw_c40, cw_c80, cw_c100, cp_144z, cp_140n, cw_mabs, cw_mod8, decide_eq_true_eq, not_false_eq_true, not_true_eq_false, true_and, and_true, false_and, and_false, decide_eq_false_iff_not, Nat.not_lt, Nat.not_le, if_pos, if_neg, r9, t2]
      exact K
/-- a state held by a row of kinds -/
def ce_hb (D : cd_D) (S : cd_S) (row base : Nat) : cd_S := fun r k => bif Nat.beq r 2 then row / base ^ (D 0 2 - 1 - k) % base else bif Nat.beq r 3 then (if row / base ^ (D 0 2 - 1 - k) % base = 2 then 20 else 0) else bif Nat.beq r 0 && Nat.beq k 2 then ce_msk (fun j => cd_und D (D 11 j) (S 1 (D 12 j))) (D 0 2) else S r k
theorem cp_218 (hD : cd_okD D) (hS : cd_okS D S) (hR : cd_refD D I) (hT : cd_refS D S I) {row base : Nat} (hr : row < 2 ^ 20) (hb : base = 2 ∨ base = 3) : cw L w (cd_c 218 [.ref 100, .int (nI row), .int (nI base)] (cd_mm L w I J)) (fun v I1 J1 => v = none ∧ J1 = J ∧ (∀ a k, ¬ (110 ≤ a ∧ a ≤ 112) → I1 a k = I a k) ∧ cd_refS D (ce_hb D S row base) I1) := by
  have h12 := hD.1.2.2.1
  have h8 := hD.1.1
  have hb1 : 0 < base ∧ base ≤ 3 := by omega
  refine cw_c (l := [_, _, _, _, _]) rfl rfl ?_
  refine cw_m (fun _ => cd_s218_0) ?_
  simp (disch := omega) only [cw_l0, cw_l1, cw_l2, cw_l3, cw_l4, cw_l5, cw_l6, cw_l7, cw_l8, cw_l9, cw_l10, cw_l11, cw_l12, cw_l13, cw_l14, cw_l15, cw_l16, cw_l17, cw_l18, cw_l19, cw_l20, cw_l27, cw_l28, cw_l31, cw_l32, cw_l40, cw_l52, cw_l60, cw_l61, cw_l63, cw_l64, cw_l80, cw_l97, cw_l99, cw_l100, cw_l255, cw_l500, cw_l999, cw_l65536, cd_inN, nI_clamp, nI_add, pk_mul, cw_subc, cw_zz, pk_div, cw_ltN, cw_eqN, cw_tf0, cw_tf1, cw_tfa, cw_bi, cw_bl, cw_bv, if_true, if_false, Bool.false_eq_true, Bool.true_eq_false, ite_self, cw_neg1, cw_m1a, cw_ztl, cw_zeq, cw_zadd, cw_znadd, cw_nzadd, cw_zsub, cw_zmul, cw_znmul, cw_nzmul, cw_ltNZ, cw_eqZN, cw_eqNZ, cw_ltZN, cw_on, cw_os, cw_c0, cw_c1, cw_c2, cw_c3, cw_c4, cw_c5, cw_c8, cw_c10, cw_c40, cw_c80, cw_c100, cp_144z, cp_140n, cw_mabs, cw_mod8, decide_eq_true_eq, not_false_eq_true, not_true_eq_false, true_and, and_true, false_and, and_false, decide_eq_false_iff_not, Nat.not_lt, Nat.not_le, cw_sub2, cw_nzsub, cw_znsub, hR.1.2.2.1]
  have key : ∀ (kd : Nat → Nat) (pt : Nat → Nat), (∀ k, k < D 0 2 → kd k = row / base ^ (D 0 2 - 1 - k) % base) → (∀ k, k < D 0 2 → kd k = pt (k + 1) % base ∧ pt k = pt (k + 1) / base ∧ pt (k + 1) < 2 ^ 20) → pt (D 0 2) = row → cw L w (cd_go 218 7 [.ref 100, .int (nI row), .int (nI base), .int (nI row), .int (zI ((D 0 2 : Int) - 1))] [] (cd_mm L w I J)) (fun v I1 J1 => v = none ∧ J1 = J ∧ (∀ a k, ¬ (110 ≤ a ∧ a ≤ 112) → I1 a k = I a k) ∧ cd_refS D (ce_hb D S row base) I1) := by
    intro kd pt hkd hpt hp0
    have hlast := cw_dn (L := L) (w := w) (Q := fun v I1 J1 => v = none ∧ J1 = J ∧ (∀ a k, ¬ (110 ≤ a ∧ a ≤ 112) → I1 a k = I a k) ∧ cd_refS D (ce_hb D S row base) I1) (fun i (I1 : Nat → Nat → Int32) => cd_go 218 7 [.ref 100, .int (nI row), .int (nI base), .int (nI (pt i)), .int (zI ((i : Int) - 1))] [] (cd_mm L w I1 J)) (fun i I1 => i ≤ D 0 2 ∧ (∀ a k, ¬ (110 ≤ a ∧ a ≤ 112) → I1 a k = I a k) ∧ ∀ k, i ≤ k → k < D 0 2 → I1 110 k = nI (kd k) ∧ I1 111 k = nI (if kd k = 2 then 20 else 0) ∧ I1 112 k = cd_tf (cd_und D (D 11 k) (S 1 (D 12 k)))) ?_ ?_ (D 0 2) I ⟨Nat.le_refl _, fun _ _ _ => rfl, fun k h1 h2 => by omega⟩
    · rw [hp0] at hlast
      exact hlast
    · intro I1 ⟨_, f1, a1⟩
      refine cw_m (fun _ => cd_s218_7) ?_
      simp (disch := omega) only [cw_l0, cw_l1, cw_l2, cw_l3, cw_l4, cw_l5, cw_l6, cw_l7, cw_l8, cw_l9, cw_l10, cw_l11, cw_l12, cw_l13, cw_l14, cw_l15, cw_l16, cw_l17, cw_l18, cw_l19, cw_l20, cw_l27, cw_l28, cw_l31, cw_l32, cw_l40, cw_l52, cw_l60, cw_l61, cw_l63, cw_l64, cw_l80, cw_l97, cw_l99, cw_l100, cw_l255, cw_l500, cw_l999, cw_l65536, cd_inN, nI_clamp, nI_add, pk_mul, cw_subc, cw_zz, pk_div, cw_ltN, cw_eqN, cw_tf0, cw_tf1, cw_tfa, cw_bi, cw_bl, cw_bv, if_true, if_false, Bool.false_eq_true, Bool.true_eq_false, ite_self, cw_neg1, cw_m1a, cw_ztl, cw_zeq, cw_zadd, cw_znadd, cw_nzadd, cw_zsub, cw_zmul, cw_znmul, cw_nzmul, cw_ltNZ, cw_eqZN, cw_eqNZ, cw_ltZN, cw_on, cw_os, cw_c0, cw_c1, cw_c2, cw_c3, cw_c4, cw_c5, cw_c8, cw_c10, cw_c40, cw_c80, cw_c100, cp_144z, cp_140n, cw_mabs, cw_mod8, decide_eq_true_eq, not_false_eq_true, not_true_eq_false, true_and, and_true, false_and, and_false, decide_eq_false_iff_not, Nat.not_lt, Nat.not_le, if_pos, if_neg]
      refine cw_ret ⟨rfl, rfl, f1, fun t ht => ?_, fun k hk => ?_⟩
      · rw [f1 _ _ (by omega), f1 _ _ (by omega)]; exact hT.1 t ht
      · obtain ⟨q1, q2, q3⟩ := a1 k (by omega) hk
        rw [hkd k hk] at q1 q2
        refine ⟨q1, q2, q3.trans ?_⟩
        show _ = cd_tf ((ce_msk _ _).testBit k)
        rw [ce_msk_tb, decide_eq_true hk]
        rfl
    · intro i I1 ⟨hi, f1, a1⟩ K
      obtain ⟨p1, p2, p3⟩ := hpt i (by omega)
      obtain ⟨d11, d12⟩ := hD.2.2.2 i (by omega)
      obtain ⟨m11, m12⟩ := hR.2.2.2 i (by omega)
      have m1 := (hT.1 _ d12).1
      have s1 := hS.1 _ d12
      have hR1 : ∀ x y, cd_refD D (cd_up (cd_up I1 110 i x) 111 i y) := fun x y => hR.of (fun a k h1 h2 => by rw [cd_up_a (by omega), cd_up_a (by omega)]; exact f1 a k (by omega))
      have g : ∀ a k, ¬ (110 ≤ a ∧ a ≤ 112) → I1 a k = I a k := f1
      have p4 : nI (pt (i + 1)) - nI (pt (i + 1)) / nI base * nI base = nI (kd i) := by
        rw [p1]
        exact pk_rem (by omega) (by omega) (by omega)
      have p5 : nI (pt (i + 1)) / nI base = nI (pt i) := by rw [p2]; exact pk_div (by omega) (by omega) (by omega)
      have hkl : kd i < 4 := by rw [p1]; have := Nat.mod_lt (pt (i + 1)) hb1.1; omega
      have e1 : (((i + 1 : Nat) : Int) - 1) = (i : Int) := by omega
      rw [e1, zI_n]
      have fin : ∀ y : Nat, y = (if kd i = 2 then 20 else 0) → cw L w (cd_go 218 45 [.ref 100, .int (nI row), .int (nI base), .int (nI (pt (i + 1))), .int (nI i)] [.int (cd_tf (cd_und D (D 11 i) (S 1 (D 12 i)))), .int (nI i), .ref 112] (cd_mm L w (cd_up (cd_up I1 110 i (nI (kd i))) 111 i (nI y)) J)) (fun v I1 J1 => v = none ∧ J1 = J ∧ (∀ a k, ¬ (110 ≤ a ∧ a ≤ 112) → I1 a k = I a k) ∧ cd_refS D (ce_hb D S row base) I1) := by
        intro y hy
        have K := K (cd_up (cd_up (cd_up I1 110 i (nI (kd i))) 111 i (nI y)) 112 i (cd_tf (cd_und D (D 11 i) (S 1 (D 12 i))))) ⟨by omega, fun a k h => by rw [cd_up_a (by omega), cd_up_a (by omega), cd_up_a (by omega)]; exact f1 a k h, fun k h1 h2 => by
          by_cases hki : k = i
          · subst hki
            rw [cd_up_a (show (110 : Nat) ≠ 112 by decide), cd_up_a (show (110 : Nat) ≠ 111 by decide), cd_up_s, cd_up_a (show (111 : Nat) ≠ 112 by decide), cd_up_s, cd_up_s, hy]
            exact ⟨rfl, rfl, rfl⟩
          · rw [cd_up_k hki, cd_up_k hki, cd_up_k hki, cd_up_k hki, cd_up_k hki, cd_up_k hki, cd_up_k hki, cd_up_k hki, cd_up_k hki]
            exact a1 k (by omega) h2⟩
        refine cw_m (fun _ => cd_s218_45) ?_
        simp (disch := omega) only [cw_l0, cw_l1, cw_l2, cw_l3, cw_l4, cw_l5, cw_l6, cw_l7, cw_l8, cw_l9, cw_l10, cw_l11, cw_l12, cw_l13, cw_l14, cw_l15, cw_l16, cw_l17, cw_l18, cw_l19, cw_l20, cw_l27, cw_l28, cw_l31, cw_l32, cw_l40, cw_l52, cw_l60, cw_l61, cw_l63, cw_l64, cw_l80, cw_l97, cw_l99, cw_l100, cw_l255, cw_l500, cw_l999, cw_l65536, cd_inN, nI_clamp, nI_add, pk_mul, cw_subc, cw_zz, pk_div, cw_ltN, cw_eqN, cw_tf0, cw_tf1, cw_tfa, cw_bi, cw_bl, cw_bv, if_true, if_false, Bool.false_eq_true, Bool.true_eq_false, ite_self, cw_neg1, cw_m1a, cw_ztl, cw_zeq, cw_zadd, cw_znadd, cw_nzadd, cw_zsub, cw_zmul, cw_znmul, cw_nzmul, cw_ltNZ, cw_eqZN, cw_eqNZ, cw_ltZN, cw_on, cw_os, cw_c0, cw_c1, cw_c2, cw_c3, cw_c4, cw_c5, cw_c8, cw_c10, cw_c40, cw_c80, cw_c100, cp_144z, cp_140n, cw_mabs, cw_mod8, decide_eq_true_eq, not_false_eq_true, not_true_eq_false, true_and, and_true, false_and, and_false, decide_eq_false_iff_not, Nat.not_lt, Nat.not_le, cw_sub2, cw_nzsub, cw_znsub, if_pos, if_neg, p5]
        exact K
      refine cw_m (fun _ => cd_s218_7) ?_
      rw [p4]
      by_cases hk2 : kd i = 2
      · have c0 := cp_150 (L := L) (w := w) (J := J) hD (hR1 (nI (kd i)) (nI 20)) d11 s1
        simp (disch := omega) only [cw_l0, cw_l1, cw_l2, cw_l3, cw_l4, cw_l5, cw_l6, cw_l7, cw_l8, cw_l9, cw_l10, cw_l11, cw_l12, cw_l13, cw_l14, cw_l15, cw_l16, cw_l17, cw_l18, cw_l19, cw_l20, cw_l27, cw_l28, cw_l31, cw_l32, cw_l40, cw_l52, cw_l60, cw_l61, cw_l63, cw_l64, cw_l80, cw_l97, cw_l99, cw_l100, cw_l255, cw_l500, cw_l999, cw_l65536, cd_inN, nI_clamp, nI_add, pk_mul, cw_subc, cw_zz, pk_div, cw_ltN, cw_eqN, cw_tf0, cw_tf1, cw_tfa, cw_bi, cw_bl, cw_bv, if_true, if_false, Bool.false_eq_true, Bool.true_eq_false, ite_self, cw_neg1, cw_m1a, cw_ztl, cw_zeq, cw_zadd, cw_znadd, cw_nzadd, cw_zsub, cw_zmul, cw_znmul, cw_nzmul, cw_ltNZ, cw_eqZN, cw_eqNZ, cw_ltZN, cw_on, cw_os, cw_c0, cw_c1, cw_c2, cw_c3, cw_c4, cw_c5, cw_c8, cw_c10, cw_c40, cw_c80, cw_c100, cp_144z, cp_140n, cw_mabs, cw_mod8, decide_eq_true_eq, not_false_eq_true, not_true_eq_false, true_and, and_true, false_and, and_false, decide_eq_false_iff_not, Nat.not_lt, Nat.not_le, if_pos, if_neg, cw_uu, g 109 i (by omega), g 108 i (by omega), g 101 (D 12 i) (by omega), m11, m12, m1, c0]
        exact fin 20 (by rw [if_pos hk2])
      · have c0 := cp_150 (L := L) (w := w) (J := J) hD (hR1 (nI (kd i)) (nI 0)) d11 s1
        simp (disch := omega) only [cw_l0, cw_l1, cw_l2, cw_l3, cw_l4, cw_l5, cw_l6, cw_l7, cw_l8, cw_l9, cw_l10, cw_l11, cw_l12, cw_l13, cw_l14, cw_l15, cw_l16, cw_l17, cw_l18, cw_l19, cw_l20, cw_l27, cw_l28, cw_l31, cw_l32, cw_l40, cw_l52, cw_l60, cw_l61, cw_l63, cw_l64, cw_l80, cw_l97, cw_l99, cw_l100, cw_l255, cw_l500, cw_l999, cw_l65536, cd_inN, nI_clamp, nI_add, pk_mul, cw_subc, cw_zz, pk_div, cw_ltN, cw_eqN, cw_tf0, cw_tf1, cw_tfa, cw_bi, cw_bl, cw_bv, if_true, if_false, Bool.false_eq_true, Bool.true_eq_false, ite_self, cw_neg1, cw_m1a, cw_ztl, cw_zeq, cw_zadd, cw_znadd, cw_nzadd, cw_zsub, cw_zmul, cw_znmul, cw_nzmul, cw_ltNZ, cw_eqZN, cw_eqNZ, cw_ltZN, cw_on, cw_os, cw_c0, cw_c1, cw_c2, cw_c3, cw_c4, cw_c5, cw_c8, cw_c10, cw_c40, cw_c80, cw_c100, cp_144z, cp_140n, cw_mabs, cw_mod8, decide_eq_true_eq, not_false_eq_true, not_true_eq_false, true_and, and_true, false_and, and_false, decide_eq_false_iff_not, Nat.not_lt, Nat.not_le, if_pos, if_neg, cw_uu, g 109 i (by omega), g 108 i (by omega), g 101 (D 12 i) (by omega), m11, m12, m1, c0]
        exact fin 0 (by rw [if_neg hk2])
  refine key (fun k => row / base ^ (D 0 2 - 1 - k) % base) (fun k => row / base ^ (D 0 2 - k)) (fun k _ => rfl) (fun k hk => ⟨?_, ?_, ?_⟩) (by rw [Nat.sub_self]; exact Nat.div_one _)
  · rw [show D 0 2 - 1 - k = D 0 2 - (k + 1) by omega]
  · rw [Nat.div_div_eq_div_mul, ← Nat.pow_succ, show (D 0 2 - (k + 1)).succ = D 0 2 - k by omega]
  · exact Nat.lt_of_le_of_lt (Nat.div_le_self _ _) hr
end CER
