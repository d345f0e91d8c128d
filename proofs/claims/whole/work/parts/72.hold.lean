/-! ===== the reference: holds, lights, bars ===== -/
section CFI
variable {L : Nat} {w : Bool} {I : Nat → Nat → Int32} {J : Nat → Nat → Int64} {D : cd_D} {S : cd_S}
variable {x : Nat → Nat} {n q s m : Nat}
theorem cp_149o {o k c d5 d6 d7 : Nat} (ho : o = 107 ∨ o = 115) (hk : k < 3) (hc : c < 64) (h5 : d5 < 64) (h6 : 1 ≤ d6 ∧ d6 ≤ 9) (h7 : 1 ≤ d7 ∧ d7 ≤ 9) (r5 : I o (5 * k) = nI d5) (r6 : I o (5 * k + 1) = nI d6) (r7 : I o (5 * k + 2) = nI d7) : cd_c 149 [.ref o, .int (nI k), .int (nI c)] (cd_mm L w I J) = some (some (.int (cd_tf ((decide (d5 / 8 ≤ c / 8) && decide (c / 8 < d5 / 8 + d6)) && (decide (d5 % 8 ≤ c % 8) && decide (c % 8 < d5 % 8 + d7))))), cd_mm L w I J) := by
  have q0 : (5 : Int32) * nI k = nI (5 * k) := by rw [fa_lit, pk_mul]
  refine cd_c_of (l := [.ref o, .int (nI k), .int (nI c), .null]) (by rcases ho with rfl | rfl <;> rfl) (by rcases ho with rfl | rfl <;> rfl) (cd_s149_0 ho ?_)
  have q1 : nI (5 * k) + 1 = nI (5 * k + 1) := nI_1 _
  have q2 : nI (5 * k) + 2 = nI (5 * k + 2) := nI_add _ 2
  rw [q0, q1, if_pos (cd_inN (by omega) (by decide)), if_pos (cd_inN (by omega) (by decide)), nI_clamp (by omega), nI_clamp (by omega), r5, r6]
  have v1 : nI c / 8 - nI d5 / 8 = nI (c / 8) - nI (d5 / 8) := by
    rw [show (8 : Int32) = nI 8 from rfl, pk_div (by omega) (by decide) (by decide), pk_div (by omega) (by decide) (by decide)]
  have v2 : (nI c - nI c / 8 * 8) - (nI d5 - nI d5 / 8 * 8) = nI (c % 8) - nI (d5 % 8) := by
    rw [show (8 : Int32) = nI 8 from rfl, pk_rem (by omega) (by decide) (by decide), pk_rem (by omega) (by decide) (by decide)]
  refine cd_ci_s.mpr ⟨_, _, cp_138 _ _ _, cd_s149_26 ho ?_⟩
  rw [v1, cd_win (by omega) (by omega) h6.1 (by omega), v2, q0, q2, if_pos (cd_inN (by omega) (by decide)), nI_clamp (by omega), r7]
  cases hA : decide (d5 / 8 ≤ c / 8) && decide (c / 8 < d5 / 8 + d6) with
  | false => rfl
  | true =>
    refine (if_neg (show ¬ cd_tf true = 0 by decide)).trans ?_
    refine cd_ci_s.mpr ⟨_, _, cp_138 _ _ _, cd_s149_47 ho ?_⟩
    rw [cd_win (by omega) (by omega) h7.1 (by omega), Bool.true_and]
    cases decide (d5 % 8 ≤ c % 8) && decide (c % 8 < d5 % 8 + d7) with
    | false => rfl
    | true => rfl
theorem cp_162 (hP : ce_P D S I) (h12 : D 0 2 ≤ 12) (hD : ∀ k, k < D 0 2 → D 11 k < 100 ∧ D 12 k < 100) {c t : Nat} (hc : c < 100) (ht : t < 100) : cd_c 162 [.ref 100, .int (nI c), .int (nI t)] (cd_mm L w I J) = some (some (.int (cd_tf (ce_pai D c t))), cd_mm L w I J) := by
  refine cw_eq ?_
  refine cw_c (l := [_, _, _, _, _]) rfl rfl ?_
  refine cw_m (fun _ => cd_s162_0) ?_
  refine cw_up (fun i (_ : Unit) => cd_go 162 4 [.ref 100, .int (nI c), .int (nI t), .int (cd_tf (ce_any (fun k => decide (D 11 k = c) && decide (D 12 k = t)) i)), .int (nI i)] [] (cd_mm L w I J)) (fun _ _ => True) (D 0 2) ?_ ?_ 0 () (by omega) trivial
  · intro _ _
    refine cw_m (fun _ => cd_s162_4) ?_
    simp (disch := omega) only [cw_l0, cw_l1, cw_l2, cw_l3, cw_l4, cw_l5, cw_l6, cw_l7, cw_l8, cw_l9, cw_l10, cw_l11, cw_l12, cw_l13, cw_l14, cw_l15, cw_l16, cw_l17, cw_l18, cw_l19, cw_l20, cw_l27, cw_l28, cw_l31, cw_l32, cw_l40, cw_l52, cw_l60, cw_l61, cw_l63, cw_l64, cw_l80, cw_l97, cw_l99, cw_l100, cw_l255, cw_l500, cw_l999, cw_l65536, cd_inN, nI_clamp, nI_add, pk_mul, cw_subc, cw_zz, pk_div, cw_ltN, cw_eqN, cw_tf0, cw_tf1, cw_tfa, cw_bi, cw_bl, cw_bv, if_true, if_false, Bool.false_eq_true, Bool.true_eq_false, ite_self, cw_neg1, cw_m1a, cw_ztl, cw_zeq, cw_zadd, cw_znadd, cw_nzadd, cw_zsub, cw_zmul, cw_znmul, cw_nzmul, cw_ltNZ, cw_eqZN, cw_eqNZ, cw_ltZN, cw_on, cw_os, cw_c0, cw_c1, cw_c2, cw_c3, cw_c4, cw_c5, cw_c8, cw_c10, cw_c40, cw_c80, cw_c100, cp_144z, cp_140n, cw_mabs, cw_mod8, decide_eq_true_eq, not_false_eq_true, not_true_eq_false, true_and, and_true, false_and, and_false, decide_eq_false_iff_not, Nat.not_lt, Nat.not_le, if_pos, if_neg, hP.1.2.2.1]
    exact cw_ret ⟨rfl, rfl, rfl⟩
  · intro i _ hi _ K
    have K := K () trivial
    rw [ce_any_s] at K
    obtain ⟨g1, g2, -, -⟩ := hP.2.2.2 i hi
    obtain ⟨b1, b2⟩ := hD i hi
    refine cw_m (fun _ => cd_s162_4) ?_
    cases ha : ce_any (fun k => decide (D 11 k = c) && decide (D 12 k = t)) i with
    | true =>
      rw [ha, Bool.true_or] at K
      simp (disch := omega) only [cw_l0, cw_l1, cw_l2, cw_l3, cw_l4, cw_l5, cw_l6, cw_l7, cw_l8, cw_l9, cw_l10, cw_l11, cw_l12, cw_l13, cw_l14, cw_l15, cw_l16, cw_l17, cw_l18, cw_l19, cw_l20, cw_l27, cw_l28, cw_l31, cw_l32, cw_l40, cw_l52, cw_l60, cw_l61, cw_l63, cw_l64, cw_l80, cw_l97, cw_l99, cw_l100, cw_l255, cw_l500, cw_l999, cw_l65536, cd_inN, nI_clamp, nI_add, pk_mul, cw_subc, cw_zz, pk_div, cw_ltN, cw_eqN, cw_tf0, cw_tf1, cw_tfa, cw_bi, cw_bl, cw_bv, if_true, if_false, Bool.false_eq_true, Bool.true_eq_false, ite_self, cw_neg1, cw_m1a, cw_ztl, cw_zeq, cw_zadd, cw_znadd, cw_nzadd, cw_zsub, cw_zmul, cw_znmul, cw_nzmul, cw_ltNZ, cw_eqZN, cw_eqNZ, cw_ltZN, cw_on, cw_os, cw_c0, cw_c1, cw_c2, cw_c3, cw_c4, cw_c5, cw_c8, cw_c10, cw_c40, cw_c80, cw_c100, cp_144z, cp_140n, cw_mabs, cw_mod8, decide_eq_true_eq, not_false_eq_true, not_true_eq_false, true_and, and_true, false_and, and_false, decide_eq_false_iff_not, Nat.not_lt, Nat.not_le, if_pos, if_neg, hP.1.2.2.1]
      exact K
    | false =>
      rw [ha, Bool.false_or] at K
      by_cases h1 : D 11 i = c
      · by_cases h2 : D 12 i = t
        · rw [decide_eq_true h1, decide_eq_true h2] at K
          simp (disch := omega) only [cw_l0, cw_l1, cw_l2, cw_l3, cw_l4, cw_l5, cw_l6, cw_l7, cw_l8, cw_l9, cw_l10, cw_l11, cw_l12, cw_l13, cw_l14, cw_l15, cw_l16, cw_l17, cw_l18, cw_l19, cw_l20, cw_l27, cw_l28, cw_l31, cw_l32, cw_l40, cw_l52, cw_l60, cw_l61, cw_l63, cw_l64, cw_l80, cw_l97, cw_l99, cw_l100, cw_l255, cw_l500, cw_l999, cw_l65536, cd_inN, nI_clamp, nI_add, pk_mul, cw_subc, cw_zz, pk_div, cw_ltN, cw_eqN, cw_tf0, cw_tf1, cw_tfa, cw_bi, cw_bl, cw_bv, if_true, if_false, Bool.false_eq_true, Bool.true_eq_false, ite_self, cw_neg1, cw_m1a, cw_ztl, cw_zeq, cw_zadd, cw_znadd, cw_nzadd, cw_zsub, cw_zmul, cw_znmul, cw_nzmul, cw_ltNZ, cw_eqZN, cw_eqNZ, cw_ltZN, cw_on, cw_os, cw_c0, cw_c1, cw_c2, cw_c3, cw_c4, cw_c5, cw_c8, cw_c10, cw_c40, cw_c80, cw_c100, cp_144z, cp_140n, cw_mabs, cw_mod8, decide_eq_true_eq, not_false_eq_true, not_true_eq_false, true_and, and_true, false_and, and_false, decide_eq_false_iff_not, Nat.not_lt, Nat.not_le, if_pos, if_neg, hP.1.2.2.1, g1, g2]
          exact K
        · rw [decide_eq_false h2, Bool.and_false] at K
          simp (disch := omega) only [cw_l0, cw_l1, cw_l2, cw_l3, cw_l4, cw_l5, cw_l6, cw_l7, cw_l8, cw_l9, cw_l10, cw_l11, cw_l12, cw_l13, cw_l14, cw_l15, cw_l16, cw_l17, cw_l18, cw_l19, cw_l20, cw_l27, cw_l28, cw_l31, cw_l32, cw_l40, cw_l52, cw_l60, cw_l61, cw_l63, cw_l64, cw_l80, cw_l97, cw_l99, cw_l100, cw_l255, cw_l500, cw_l999, cw_l65536, cd_inN, nI_clamp, nI_add, pk_mul, cw_subc, cw_zz, pk_div, cw_ltN, cw_eqN, cw_tf0, cw_tf1, cw_tfa, cw_bi, cw_bl, cw_bv, if_true, if_false, Bool.false_eq_true, Bool.true_eq_false, ite_self, cw_neg1, cw_m1a, cw_ztl, cw_zeq, cw_zadd, cw_znadd, cw_nzadd, cw_zsub, cw_zmul, cw_znmul, cw_nzmul, cw_ltNZ, cw_eqZN, cw_eqNZ, cw_ltZN, cw_on, cw_os, cw_c0, cw_c1, cw_c2, cw_c3, cw_c4, cw_c5, cw_c8, cw_c10, cw_c40, cw_c80, cw_c100, cp_144z, cp_140n, cw_mabs, cw_mod8, decide_eq_true_eq, not_false_eq_true, not_true_eq_false, true_and, and_true, false_and, and_false, decide_eq_false_iff_not, Nat.not_lt, Nat.not_le, if_pos, if_neg, hP.1.2.2.1, g1, g2]
          exact K
      · rw [decide_eq_false h1, Bool.false_and] at K
        simp (disch := omega) only [cw_l0, cw_l1, cw_l2, cw_l3, cw_l4, cw_l5, cw_l6, cw_l7, cw_l8, cw_l9, cw_l10, cw_l11, cw_l12, cw_l13, cw_l14, cw_l15, cw_l16, cw_l17, cw_l18, cw_l19, cw_l20, cw_l27, cw_l28, cw_l31, cw_l32, cw_l40, cw_l52, cw_l60, cw_l61, cw_l63, cw_l64, cw_l80, cw_l97, cw_l99, cw_l100, cw_l255, cw_l500, cw_l999, cw_l65536, cd_inN, nI_clamp, nI_add, pk_mul, cw_subc, cw_zz, pk_div, cw_ltN, cw_eqN, cw_tf0, cw_tf1, cw_tfa, cw_bi, cw_bl, cw_bv, if_true, if_false, Bool.false_eq_true, Bool.true_eq_false, ite_self, cw_neg1, cw_m1a, cw_ztl, cw_zeq, cw_zadd, cw_znadd, cw_nzadd, cw_zsub, cw_zmul, cw_znmul, cw_nzmul, cw_ltNZ, cw_eqZN, cw_eqNZ, cw_ltZN, cw_on, cw_os, cw_c0, cw_c1, cw_c2, cw_c3, cw_c4, cw_c5, cw_c8, cw_c10, cw_c40, cw_c80, cw_c100, cp_144z, cp_140n, cw_mabs, cw_mod8, decide_eq_true_eq, not_false_eq_true, not_true_eq_false, true_and, and_true, false_and, and_false, decide_eq_false_iff_not, Nat.not_lt, Nat.not_le, if_pos, if_neg, hP.1.2.2.1, g1, g2]
        exact K
theorem ce_P_H {I1 : Nat → Nat → Int32} (hP : ce_P D S I) (f : ∀ a j, ¬ ce_xN a j → I1 a j = I a j) {k : Nat} (hk : D 0 2 = k) (c t v b : Nat) : ce_P (ce_aH D c t) (ce_aS D S v b) (cd_up (cd_up (cd_up (cd_up (cd_up I1 116 (4 * k) (nI c)) 116 (4 * k + 1) (nI t)) 116 (4 * k + 2) (nI v)) 116 (4 * k + 3) (nI b)) 100 29 (nI (k + 1))) := by
  subst hk
  obtain ⟨⟨b1, b2, b3, b4, b5, b6, b7⟩, p2, p3, p4⟩ := hP
  have g : ∀ a j, a ≠ 116 → ¬ (a = 100 ∧ j = 29) → ¬ ce_xN a j → (cd_up (cd_up (cd_up (cd_up (cd_up I1 116 (4 * D 0 2) (nI c)) 116 (4 * D 0 2 + 1) (nI t)) 116 (4 * D 0 2 + 2) (nI v)) 116 (4 * D 0 2 + 3) (nI b)) 100 29 (nI (D 0 2 + 1))) a j = I a j := fun a j h1 h2 h3 => by
    rw [cd_up_k2 h2, cd_up_a h1, cd_up_a h1, cd_up_a h1, cd_up_a h1]
    exact f a j h3
  refine ⟨⟨(g _ _ (by decide) (by omega) (by unfold ce_xN; omega)).trans b1, (g _ _ (by decide) (by omega) (by unfold ce_xN; omega)).trans b2, ?_, (g _ _ (by decide) (by omega) (by unfold ce_xN; omega)).trans b4, (g _ _ (by decide) (by omega) (by unfold ce_xN; omega)).trans b5, (g _ _ (by decide) (by omega) (by unfold ce_xN; omega)).trans b6, (g _ _ (by decide) (by omega) (by unfold ce_xN; omega)).trans b7⟩, fun u hu => ?_, fun k2 hk2 => ?_, fun k2 hk2 => ?_⟩
  · rw [cd_up_s]
    rfl
  · rw [g _ _ (by decide) (by omega) (by unfold ce_xN; omega), g _ _ (by decide) (by omega) (by unfold ce_xN; omega), g _ _ (by decide) (by omega) (by unfold ce_xN; omega), g _ _ (by decide) (by omega) (by unfold ce_xN; omega), g _ _ (by decide) (by omega) (by unfold ce_xN; omega)]
    exact p2 u hu
  · rw [g _ _ (by decide) (by omega) (by unfold ce_xN; omega), g _ _ (by decide) (by omega) (by unfold ce_xN; omega), g _ _ (by decide) (by omega) (by unfold ce_xN; omega), g _ _ (by decide) (by omega) (by unfold ce_xN; omega), g _ _ (by decide) (by omega) (by unfold ce_xN; omega)]
    exact p3 k2 hk2
  · replace hk2 : k2 < D 0 2 + 1 := hk2
    have y : ∀ j, cd_up (cd_up (cd_up (cd_up (cd_up I1 116 (4 * D 0 2) (nI c)) 116 (4 * D 0 2 + 1) (nI t)) 116 (4 * D 0 2 + 2) (nI v)) 116 (4 * D 0 2 + 3) (nI b)) 100 29 (nI (D 0 2 + 1)) 116 j = if j = 4 * D 0 2 + 3 then nI b else if j = 4 * D 0 2 + 2 then nI v else if j = 4 * D 0 2 + 1 then nI t else if j = 4 * D 0 2 then nI c else I 116 j := fun j => by
      rw [cd_up_a (by decide)]
      show (if (116 : Nat) = 116 then (if j = 4 * D 0 2 + 3 then nI b else if (116 : Nat) = 116 then (if j = 4 * D 0 2 + 2 then nI v else if (116 : Nat) = 116 then (if j = 4 * D 0 2 + 1 then nI t else if (116 : Nat) = 116 then (if j = 4 * D 0 2 then nI c else I1 116 j) else I1 116 j) else _) else _) else _) = _
      rw [if_pos rfl, if_pos rfl, if_pos rfl, if_pos rfl, f 116 j (by unfold ce_xN; omega)]
    rw [y, y, y, y]
    by_cases he : k2 = D 0 2
    · subst he
      rw [if_neg (by omega), if_neg (by omega), if_neg (by omega), if_pos rfl, if_neg (by omega), if_neg (by omega), if_pos rfl, if_neg (by omega), if_pos rfl, if_pos rfl]
      simp [ce_aH, ce_aS, cd_up]
    · rw [if_neg (by omega), if_neg (by omega), if_neg (by omega), if_neg (by omega), if_neg (by omega), if_neg (by omega), if_neg (by omega), if_neg (by omega), if_neg (by omega), if_neg (by omega), if_neg (by omega), if_neg (by omega), if_neg (by omega), if_neg (by omega), if_neg (by omega), if_neg (by omega)]
      have := p4 k2 (by omega)
      simp [ce_aH, ce_aS, cd_up, he]
      exact this
/-- a light -/
theorem cp_165 (hn : n ≤ 500) (hx : ∀ k, x k < 256) (ht : ce_txt x n I) (hq : q ≤ n) (h20 : I 100 20 = nI q) (hP : ce_P D S I) : cw L w (cd_c 165 [.ref 100] (cd_mm L w I J)) (ce_pq I J (ce_pL x n q D S)) := by
  have xP : ∀ a j, ¬ ce_xP a j → ¬ ce_xN a j ∧ ¬ (a = 100 ∧ j = 31) ∧ ¬ (a = 100 ∧ j = 32) ∧ ¬ (a = 100 ∧ j = 33) := fun a j h => by unfold ce_xP at h; unfold ce_xN; omega
  refine cw_c (l := [_, _]) rfl rfl ?_
  refine cw_m (fun _ => cd_s165_0) ?_
  refine cp_157k hn hx ht hq h20 0 100 (by decide) (by decide) rfl rfl (fun I1 c s1 e1 n1 f1 g23 g24 g20 g19 => ?_) (fun I1 f p n1 hf f1 g19 => ?_)
  · obtain ⟨-, hc, -, hq1, -⟩ := ce_num_b hq n1
    refine cw_m (fun _ => cd_s165_4) ?_
    rw [if_neg (show ¬ (0 : Int32) < nI 0 by decide), g23]
    have f1' : ∀ a j, ¬ ce_xN a j → ¬ (a = 100 ∧ j = 31) → cd_up I1 100 31 (nI c) a j = I a j := fun a j h1 h2 => (cd_up_k2 h2).trans (f1 a j h1)
    have t1 : ce_txt x n (cd_up I1 100 31 (nI c)) := ht.of (fun a j h => f1' a j (by unfold ce_xN; omega) (by omega))
    refine cp_157k hn hx t1 hq1 ((cd_up_k (by decide)).trans g20) 1 21 (by decide) (by decide) rfl rfl (fun I2 d s2 e2 n2 f2 g23 g24 g20 g192 => ?_) (fun I2 f p n2 hf f2 g192 => ?_)
    · refine cw_m (fun _ => cd_s165_17) ?_
      rw [g23]
      have e : ce_pL x n q D S = .ok (e2, ce_aL D c d, S) := by
        unfold ce_pL ce_bd
        rw [n1]
        dsimp only
        rw [n2]
      rw [e]
      have g : ∀ a j, ¬ ce_xN a j → ¬ (a = 100 ∧ j = 31) → ¬ (a = 100 ∧ j = 32) → ¬ (a = 100 ∧ j = 33) → cd_up (cd_up I2 100 32 (nI d)) 100 33 1 a j = I a j := fun a j h1 h2 h3 h4 => by
        rw [cd_up_k2 h4, cd_up_k2 h3, f2 a j h1]
        exact f1' a j h1 h2
      obtain ⟨⟨b1, b2, b3, b4, b5, b6, b7⟩, p2, p3, p4⟩ := hP
      refine cw_ret ⟨fun _ _ _ => rfl, fun a j h => ?_, rfl, ?_, ⟨⟨(g _ _ (by unfold ce_xN; omega) (by omega) (by omega) (by omega)).trans b1, (g _ _ (by unfold ce_xN; omega) (by omega) (by omega) (by omega)).trans b2, (g _ _ (by unfold ce_xN; omega) (by omega) (by omega) (by omega)).trans b3, ?_, ?_, ?_, (g _ _ (by unfold ce_xN; omega) (by omega) (by omega) (by omega)).trans b7⟩, fun u hu => ?_, fun k2 hk2 => ?_, fun k2 hk2 => ?_⟩, ?_⟩
      · obtain ⟨z1, z2, z3, z4⟩ := xP a j h
        exact g a j z1 z2 z3 z4
      · rw [cd_up_k (by decide), cd_up_k (by decide)]
        exact g20
      · rw [cd_up_k (by decide), cd_up_k (by decide), f2 _ _ (by unfold ce_xN; omega), cd_up_s]
        rfl
      · rw [cd_up_k (by decide), cd_up_s]
        rfl
      · rw [cd_up_s]
        rfl
      · rw [g _ _ (by unfold ce_xN; omega) (by omega) (by omega) (by omega), g _ _ (by unfold ce_xN; omega) (by omega) (by omega) (by omega), g _ _ (by unfold ce_xN; omega) (by omega) (by omega) (by omega), g _ _ (by unfold ce_xN; omega) (by omega) (by omega) (by omega), g _ _ (by unfold ce_xN; omega) (by omega) (by omega) (by omega)]
        exact p2 u hu
      · rw [g _ _ (by unfold ce_xN; omega) (by omega) (by omega) (by omega), g _ _ (by unfold ce_xN; omega) (by omega) (by omega) (by omega), g _ _ (by unfold ce_xN; omega) (by omega) (by omega) (by omega), g _ _ (by unfold ce_xN; omega) (by omega) (by omega) (by omega), g _ _ (by unfold ce_xN; omega) (by omega) (by omega) (by omega)]
        exact p3 k2 hk2
      · rw [g _ _ (by unfold ce_xN; omega) (by omega) (by omega) (by omega), g _ _ (by unfold ce_xN; omega) (by omega) (by omega) (by omega), g _ _ (by unfold ce_xN; omega) (by omega) (by omega) (by omega), g _ _ (by unfold ce_xN; omega) (by omega) (by omega) (by omega)]
        exact p4 k2 hk2
      · rw [cd_up_k (by decide), cd_up_k (by decide), g192, cd_up_k (by decide)]
        exact g19
    · refine cw_m (fun _ => cd_s165_17) ?_
      have e : ce_pL x n q D S = .error (f, p) := by
        unfold ce_pL ce_bd
        rw [n1]
        dsimp only
        rw [n2]
      rw [e]
      refine cw_ret ⟨fun _ _ _ => rfl, fun a j h => ?_, rfl, ?_⟩
      · obtain ⟨z1, z2, z3, z4⟩ := xP a j h
        rw [cd_up_k2 z4, cd_up_k2 z3, f2 a j z1]
        exact f1' a j z1 z2
      · rw [cd_up_k (by decide), cd_up_k (by decide)]
        exact g192
  · refine cw_m (fun _ => cd_s165_4) ?_
    rw [if_pos (show (0 : Int32) < nI f from nI_lt (a := 0) (by omega) (by omega))]
    refine cw_m (fun _ => cd_s165_17) ?_
    have e : ce_pL x n q D S = .error (f, p) := by
      unfold ce_pL ce_bd
      rw [n1]
    rw [e]
    refine cw_ret ⟨fun _ _ _ => rfl, fun a j h => ?_, rfl, ?_⟩
    · obtain ⟨z1, z2, z3, z4⟩ := xP a j h
      rw [cd_up_k2 z4, cd_up_k2 z3, cd_up_k2 z2]
      exact f1 a j z1
    · rw [cd_up_k (by decide), cd_up_k (by decide), cd_up_k (by decide)]
      exact g19
end CFI
