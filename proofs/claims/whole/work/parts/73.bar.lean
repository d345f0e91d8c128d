/-! ===== the reference: bars, holds ===== -/
theorem ce_kw_b {x : Nat → Nat} {s m v : Nat} (h : ce_kw x s m = some v) : v ≤ 4 := by
  unfold ce_kw at h
  repeat' split at h
  all_goals first | cases h; decide | cases h
section CFJ
variable {L : Nat} {w : Bool} {I : Nat → Nat → Int32} {J : Nat → Nat → Int64} {D : cd_D} {S : cd_S}
variable {x : Nat → Nat} {n q s m : Nat}
theorem cp_166 (hn : n ≤ 500) (hx : ∀ k, x k < 256) (ht : ce_txt x n I) (hq : q ≤ n) (h20 : I 100 20 = nI q) (hP : ce_P D S I) (h8 : D 0 0 ≤ 8) (h12 : D 0 2 ≤ 12) (hD : ∀ k, k < D 0 2 → D 12 k < 100) (h3 : D 0 3 < 256) : cw L w (cd_c 166 [.ref 100] (cd_mm L w I J)) (ce_pq I J (ce_pR x n q D S)) := by
  have xP : ∀ a j, ¬ ce_xP a j → ¬ ce_xN a j ∧ ¬ (a = 100 ∧ j = 34) ∧ ¬ (a = 100 ∧ j = 19) := fun a j h => by unfold ce_xP at h; unfold ce_xN; omega
  refine cw_c (l := [_, _, _, _]) rfl rfl ?_
  refine cw_m (fun _ => cd_s166_0) ?_
  rw [hP.1.1]
  refine cp_157k hn hx ht hq h20 0 (D 0 0) (by decide) (by omega) rfl (by rw [show (1 : Int32) = nI 1 from rfl, cw_sub2]; rfl) (fun I1 t s1 e1 n1 f1 g23 g24 g20 g19 => ?_) (fun I1 f p n1 hf f1 g19 => ?_)
  · obtain ⟨-, ht8, -, hq1, -⟩ := ce_num_b hq n1
    refine cw_m (fun _ => cd_s166_7) ?_
    rw [if_neg (show ¬ (0 : Int32) < nI 0 by decide)]
    have hP1 : ∀ k, k < D 0 2 → I1 116 (4 * k + 1) = nI (D 12 k) := fun k hk => (f1 _ _ (by unfold ce_xN; omega)).trans (hP.2.2.2 k hk).2.1
    have h29 : I1 100 29 = nI (D 0 2) := (f1 _ _ (by unfold ce_xN; omega)).trans hP.1.2.2.1
    have h34 : I1 100 34 = nI (D 0 3) := (f1 _ _ (by unfold ce_xN; omega)).trans hP.1.2.2.2.2.2.2
    refine cw_up (fun i (_ : Unit) => cd_go 166 16 [.ref 100, .int (nI 0), .int (cd_tf (ce_any (fun k => decide (D 12 k = t)) i)), .int (nI i)] [] (cd_mm L w I1 J)) (fun _ _ => True) (D 0 2) ?_ ?_ 0 () (by omega) trivial
    · intro _ _
      refine cw_m (fun _ => cd_s166_16) ?_
      rw [h29, if_neg (fun h => Int32.lt_irrefl h), h34, g23, show (1 : Int32) <<< (nI t &&& 31) = nI (2 ^ t) from cw_sh1 (by omega), cw_or]
      have hhon : ce_any (fun k => decide (D 12 k = t)) (D 0 2) = ce_hon D t := rfl
      rw [hhon]
      cases hh : ce_hon D t with
      | false =>
        rw [if_pos (show cd_tf false = 0 by decide)]
        have e : ce_pR x n q D S = .ok (e1, cd_up D 0 3 (D 0 3 ||| 2 ^ t), S) := by
          unfold ce_pR ce_bd
          rw [n1]
          dsimp only
          rw [hh, if_neg (by decide)]
        rw [e]
        have g : ∀ a j, ¬ ce_xN a j → ¬ (a = 100 ∧ j = 34) → cd_up I1 100 34 (nI (D 0 3 ||| 2 ^ t)) a j = I a j := fun a j h1 h2 => (cd_up_k2 h2).trans (f1 a j h1)
        obtain ⟨⟨b1, b2, b3, b4, b5, b6, b7⟩, p2, p3, p4⟩ := hP
        refine cw_ret ⟨fun _ _ _ => rfl, fun a j h => ?_, rfl, ?_, ⟨⟨(g _ _ (by unfold ce_xN; omega) (by omega)).trans b1, (g _ _ (by unfold ce_xN; omega) (by omega)).trans b2, (g _ _ (by unfold ce_xN; omega) (by omega)).trans b3, (g _ _ (by unfold ce_xN; omega) (by omega)).trans b4, (g _ _ (by unfold ce_xN; omega) (by omega)).trans b5, (g _ _ (by unfold ce_xN; omega) (by omega)).trans b6, ?_⟩, fun u hu => ?_, fun k2 hk2 => ?_, fun k2 hk2 => ?_⟩, ?_⟩
        · obtain ⟨z1, z2, z3⟩ := xP a j h
          exact g a j z1 z2
        · rw [cd_up_k (by decide)]
          exact g20
        · rw [cd_up_s]
          rfl
        · rw [g _ _ (by unfold ce_xN; omega) (by omega), g _ _ (by unfold ce_xN; omega) (by omega), g _ _ (by unfold ce_xN; omega) (by omega), g _ _ (by unfold ce_xN; omega) (by omega), g _ _ (by unfold ce_xN; omega) (by omega)]
          exact p2 u hu
        · rw [g _ _ (by unfold ce_xN; omega) (by omega), g _ _ (by unfold ce_xN; omega) (by omega), g _ _ (by unfold ce_xN; omega) (by omega), g _ _ (by unfold ce_xN; omega) (by omega), g _ _ (by unfold ce_xN; omega) (by omega)]
          exact p3 k2 hk2
        · rw [g _ _ (by unfold ce_xN; omega) (by omega), g _ _ (by unfold ce_xN; omega) (by omega), g _ _ (by unfold ce_xN; omega) (by omega), g _ _ (by unfold ce_xN; omega) (by omega)]
          exact p4 k2 hk2
        · rw [cd_up_k (by decide)]
          exact g19
      | true =>
        rw [if_neg (show ¬ cd_tf true = 0 by decide), cp_153, cw_bi]
        refine cw_m (fun _ => cd_s166_55) ?_
        have e : ce_pR x n q D S = .error (3, s1) := by
          unfold ce_pR ce_bd
          rw [n1]
          dsimp only
          rw [hh, if_pos rfl]
        rw [e]
        refine cw_ret ⟨fun _ _ _ => rfl, fun a j h => ?_, rfl, ?_⟩
        · obtain ⟨z1, z2, z3⟩ := xP a j h
          rw [cd_up_k2 z3, cd_up_k2 z2]
          exact f1 a j z1
        · rw [cd_up_s, cd_up_k (by decide)]
          exact g24
    · intro i _ hi _ K
      have K := K () trivial
      rw [ce_any_s] at K
      have b2 := hD i hi
      have g1 := hP1 i hi
      refine cw_m (fun _ => cd_s166_16) ?_
      cases ha : ce_any (fun k => decide (D 12 k = t)) i with
      | true =>
        rw [ha, Bool.true_or] at K
        simp (disch := omega) only [cw_l0, cw_l1, cw_l2, cw_l3, cw_l4, cw_l5, cw_l6, cw_l7, cw_l8, cw_l9, cw_l10, cw_l11, cw_l12, cw_l13, cw_l14, cw_l15, cw_l16, cw_l17, cw_l18, cw_l19, cw_l20, cw_l27, cw_l28, cw_l31, cw_l32, cw_l40, cw_l52, cw_l60, cw_l61, cw_l63, cw_l64, cw_l80, cw_l97, cw_l99, cw_l100, cw_l255, cw_l500, cw_l999, cw_l65536, cd_inN, nI_clamp, nI_add, pk_mul, cw_subc, cw_zz, pk_div, cw_ltN, cw_eqN, cw_tf0, cw_tf1, cw_tfa, cw_bi, cw_bl, cw_bv, if_true, if_false, Bool.false_eq_true, Bool.true_eq_false, ite_self, cw_neg1, cw_m1a, cw_ztl, cw_zeq, cw_zadd, cw_znadd, cw_nzadd, cw_zsub, cw_zmul, cw_znmul, cw_nzmul, cw_ltNZ, cw_eqZN, cw_eqNZ, cw_ltZN, cw_on, cw_os, cw_c0, cw_c1, cw_c2, cw_c3, cw_c4, cw_c5, cw_c8, cw_c10, cw_c40, cw_c80, cw_c100, cp_144z, cp_140n, cw_mabs, cw_mod8, decide_eq_true_eq, not_false_eq_true, not_true_eq_false, true_and, and_true, false_and, and_false, decide_eq_false_iff_not, Nat.not_lt, Nat.not_le, if_pos, if_neg, h29]
        exact K
      | false =>
        rw [ha, Bool.false_or] at K
        by_cases h2 : D 12 i = t
        · rw [decide_eq_true h2] at K
          simp (disch := omega) only [cw_l0, cw_l1, cw_l2, cw_l3, cw_l4, cw_l5, cw_l6, cw_l7, cw_l8, cw_l9, cw_l10, cw_l11, cw_l12, cw_l13, cw_l14, cw_l15, cw_l16, cw_l17, cw_l18, cw_l19, cw_l20, cw_l27, cw_l28, cw_l31, cw_l32, cw_l40, cw_l52, cw_l60, cw_l61, cw_l63, cw_l64, cw_l80, cw_l97, cw_l99, cw_l100, cw_l255, cw_l500, cw_l999, cw_l65536, cd_inN, nI_clamp, nI_add, pk_mul, cw_subc, cw_zz, pk_div, cw_ltN, cw_eqN, cw_tf0, cw_tf1, cw_tfa, cw_bi, cw_bl, cw_bv, if_true, if_false, Bool.false_eq_true, Bool.true_eq_false, ite_self, cw_neg1, cw_m1a, cw_ztl, cw_zeq, cw_zadd, cw_znadd, cw_nzadd, cw_zsub, cw_zmul, cw_znmul, cw_nzmul, cw_ltNZ, cw_eqZN, cw_eqNZ, cw_ltZN, cw_on, cw_os, cw_c0, cw_c1, cw_c2, cw_c3, cw_c4, cw_c5, cw_c8, cw_c10, cw_c40, cw_c80, cw_c100, cp_144z, cp_140n, cw_mabs, cw_mod8, decide_eq_true_eq, not_false_eq_true, not_true_eq_false, true_and, and_true, false_and, and_false, decide_eq_false_iff_not, Nat.not_lt, Nat.not_le, if_pos, if_neg, h29, g1, g23]
          exact K
        · rw [decide_eq_false h2] at K
          simp (disch := omega) only [cw_l0, cw_l1, cw_l2, cw_l3, cw_l4, cw_l5, cw_l6, cw_l7, cw_l8, cw_l9, cw_l10, cw_l11, cw_l12, cw_l13, cw_l14, cw_l15, cw_l16, cw_l17, cw_l18, cw_l19, cw_l20, cw_l27, cw_l28, cw_l31, cw_l32, cw_l40, cw_l52, cw_l60, cw_l61, cw_l63, cw_l64, cw_l80, cw_l97, cw_l99, cw_l100, cw_l255, cw_l500, cw_l999, cw_l65536, cd_inN, nI_clamp, nI_add, pk_mul, cw_subc, cw_zz, pk_div, cw_ltN, cw_eqN, cw_tf0, cw_tf1, cw_tfa, cw_bi, cw_bl, cw_bv, if_true, if_false, Bool.false_eq_true, Bool.true_eq_false, ite_self, cw_neg1, cw_m1a, cw_ztl, cw_zeq, cw_zadd, cw_znadd, cw_nzadd, cw_zsub, cw_zmul, cw_znmul, cw_nzmul, cw_ltNZ, cw_eqZN, cw_eqNZ, cw_ltZN, cw_on, cw_os, cw_c0, cw_c1, cw_c2, cw_c3, cw_c4, cw_c5, cw_c8, cw_c10, cw_c40, cw_c80, cw_c100, cp_144z, cp_140n, cw_mabs, cw_mod8, decide_eq_true_eq, not_false_eq_true, not_true_eq_false, true_and, and_true, false_and, and_false, decide_eq_false_iff_not, Nat.not_lt, Nat.not_le, if_pos, if_neg, h29, g1, g23]
          exact K
  · refine cw_m (fun _ => cd_s166_7) ?_
    rw [if_pos (show (0 : Int32) < nI f from nI_lt (a := 0) (by omega) (by omega))]
    have e : ce_pR x n q D S = .error (f, p) := by
      unfold ce_pR ce_bd
      rw [n1]
    rw [e]
    refine cw_ret ⟨fun _ _ _ => rfl, fun a j h => ?_, rfl, g19⟩
    obtain ⟨z1, z2, z3⟩ := xP a j h
    exact f1 a j z1
/-- a hold, its rows written -/
theorem cp_164w {I1 : Nat → Nat → Int32} (hP : ce_P D S I) (f : ∀ a j, ¬ ce_xN a j → I1 a j = I a j) {k c t v f2 : Nat} (hk : D 0 2 = k) (hk12 : k < 12) (hv : v ≤ 4) {b : Int32} (hb : v = 2 → I1 100 23 = b) (hb0 : v ≠ 2 → b = 0) {Q : Option Value → (Nat → Nat → Int32) → (Nat → Nat → Int64) → Prop} (K : Q (some (.int (nI f2))) (cd_up (cd_up (cd_up (cd_up (cd_up I1 116 (4 * k) (nI c)) 116 (4 * k + 1) (nI t)) 116 (4 * k + 2) (nI v)) 116 (4 * k + 3) b) 100 29 (nI (k + 1))) J) : cw L w (cd_go 164 86 [.ref 100, .int (nI (4 * k)), .int (nI 0), .int (nI c), .int (nI t), .int (nI v)] [.int (nI f2)] (cd_mm L w I1 J)) Q := by
  have h29 : I1 100 29 = nI k := by rw [f _ _ (by unfold ce_xN; omega), hP.1.2.2.1, hk]
  have q1 : nI (4 * k) + 1 = nI (4 * k + 1) := nI_1 _
  have q2 : nI (4 * k) + 2 = nI (4 * k + 2) := nI_add _ 2
  have q3 : nI (4 * k) + 3 = nI (4 * k + 3) := nI_add _ 3
  refine cw_m (fun _ => cd_s164_86) ?_
  rw [q1, q2, q3, if_pos (cd_inN (by omega) (by decide)), if_pos (cd_inN (by omega) (by decide)), if_pos (cd_inN (by omega) (by decide)), if_pos (cd_inN (by omega) (by decide)), if_pos (cd_inN (by omega) (by decide)), nI_clamp (by omega), nI_clamp (by omega), nI_clamp (by omega), nI_clamp (by omega)]
  by_cases h2 : v = 2
  · rw [if_pos (show nI v = 2 by rw [h2]; rfl), cd_up_a (by decide), cd_up_a (by decide), cd_up_a (by decide), cd_up_a (by decide), cd_up_a (by decide), cd_up_a (by decide), cd_up_a (by decide), hb h2, h29, nI_1]
    exact cw_ret K
  · rw [if_neg (show ¬ nI v = 2 from fun h => h2 ((nI_eq (by omega) (by decide)).mp (h.trans (show (2 : Int32) = nI 2 from rfl)))), cd_up_a (by decide), cd_up_a (by decide), cd_up_a (by decide), cd_up_a (by decide), h29, nI_1]
    rw [hb0 h2] at K
    exact cw_ret K
theorem cp_164 (hn : n ≤ 500) (hx : ∀ k, x k < 256) (ht : ce_txt x n I) (hq : q ≤ n) (h20 : I 100 20 = nI q) (hP : ce_P D S I) (hD : cd_okD D) (hS : ∀ t, t < D 0 0 → S 1 t < 64) (h12 : D 0 2 < 12) (h3 : D 0 3 < 256) : cw L w (cd_c 164 [.ref 100] (cd_mm L w I J)) (ce_pq I J (ce_pH x n q D S)) := by
  generalize hkk : D 0 2 = k at *
  have hd1 := hD.1.1
  have hd2 := hD.1.2.1
  have xP : ∀ a j, ¬ ce_xP a j → ¬ ce_xN a j ∧ a ≠ 116 ∧ ¬ (a = 100 ∧ j = 29) ∧ ¬ (a = 100 ∧ j = 19) := fun a j h => by unfold ce_xP at h; unfold ce_xN; omega
  refine cw_c (l := [_, _, _, _, _, _]) rfl rfl ?_
  refine cw_m (fun _ => cd_s164_0) ?_
  rw [hP.1.2.1, hP.1.2.2.1, show (4 : Int32) = nI 4 from rfl, pk_mul, hkk]
  refine cp_157k hn hx ht hq h20 0 (D 0 1) (by decide) (by omega) rfl (by rw [show (1 : Int32) = nI 1 from rfl, cw_sub2]; rfl) (fun I1 c s1 e1 n1 f1 g23 g24 g20 g19 => ?_) (fun I1 f p n1 hf f1 g19 => ?_)
  · obtain ⟨-, hc, -, hq1, -⟩ := ce_num_b hq n1
    have t1 : ce_txt x n I1 := ht.of (fun a j h => f1 a j (by unfold ce_xN; omega))
    have h25 : I1 100 25 = nI (D 0 0) := (f1 _ _ (by unfold ce_xN; omega)).trans hP.1.1
    refine cw_m (fun _ => cd_s164_12) ?_
    rw [if_neg (show ¬ (0 : Int32) < nI 0 by decide), h25, g23]
    refine cp_157k hn hx t1 hq1 g20 0 (D 0 0) (by decide) (by omega) rfl (by rw [show (1 : Int32) = nI 1 from rfl, cw_sub2]; rfl) (fun I2 t s2 e2 n2 f2 g23 g24 g20 g192 => ?_) (fun I2 f p n2 hf f2 g192 => ?_)
    · obtain ⟨-, ht8, -, hq2, -⟩ := ce_num_b hq1 n2
      have f2' : ∀ a j, ¬ ce_xN a j → I2 a j = I a j := fun a j h => (f2 a j h).trans (f1 a j h)
      have t2 : ce_txt x n I2 := ht.of (fun a j h => f2' a j (by unfold ce_xN; omega))
      have hP2 : ce_P D S I2 := hP.of (fun a j h => f2' a j (by unfold ce_xN; omega))
      have hpH : ce_pH x n q D S = if ce_pai D c t || ((D 0 3).testBit t || !cd_und D c (S 1 t)) then .error (3, s2) else match ce_kw x (ce_sk x n e2) (ce_we x n (ce_sk x n e2) - ce_sk x n e2) with
          | none => .error (1, ce_sk x n e2)
          | some v => ce_bd (ce_pB x n (ce_we x n (ce_sk x n e2)) v) fun b => .ok (b.2, ce_aH D c t, ce_aS D S v b.1) := by
        unfold ce_pH ce_bd
        rw [n1]
        dsimp only
        rw [n2]
        rfl
      have bad : ∀ {x1 x2 x3 x4 : Value}, ce_pH x n q D S = .error (3, s2) → cw L w ((cd_ci (cd_c 153 [.ref 100, .int 3, .int (I2 100 24)] (cd_mm L w I2 J))).bind fun q => cd_go 164 61 [.ref 100, .int (nI (4 * k)), .int (nI 0), .int (nI c), .int (nI t), .null] [.int q.1] q.2) (ce_pq I J (ce_pH x n q D S)) := fun hb => by
        rw [cp_153, cw_bi, g24]
        refine cw_m (fun _ => cd_s164_61) ?_
        rw [hb]
        refine cw_ret ⟨fun _ _ _ => rfl, fun a j h => ?_, rfl, cd_up_s⟩
        obtain ⟨z1, z2, z3, z4⟩ := xP a j h
        rw [cd_up_k2 z4]
        exact f2' a j z1
      have bad := bad (x1 := .null) (x2 := .null) (x3 := .null) (x4 := .null)
      refine cw_m (fun _ => cd_s164_27) ?_
      rw [if_neg (show ¬ (0 : Int32) < nI 0 by decide), g23, cp_162 hP2 (by omega) (fun k hk => by have := hD.2.2.2 k hk; omega) (by omega) (by omega), cw_bi]
      refine cw_m (fun _ => cd_s164_39) ?_
      cases hp : ce_pai D c t with
      | true =>
        rw [if_neg (show ¬ cd_tf true = 0 by decide)]
        exact bad (by rw [hpH, hp, Bool.true_or, if_pos rfl])
      | false =>
        have h34 : I2 100 34 = nI (D 0 3) := hP2.1.2.2.2.2.2.2
        rw [if_pos (show cd_tf false = 0 by decide), h34, cp_139n (by omega) (by omega), cw_bi]
        refine cw_m (fun _ => cd_s164_44) ?_
        cases hb : (D 0 3).testBit t with
        | true =>
          rw [if_neg (show ¬ cd_tf true = 0 by decide)]
          exact bad (by rw [hpH, hp, hb, Bool.true_or, Bool.or_true, if_pos rfl])
        | false =>
          obtain ⟨r1, -⟩ := hP2.2.1 t ht8
          obtain ⟨r5, r6, r7, -⟩ := hP2.2.2.1 c hc
          obtain ⟨d5, d6, d56, d7, d57, -⟩ := hD.2.2.1 c hc
          rw [if_pos (show cd_tf false = 0 by decide), show (5 : Int32) = nI 5 from rfl, pk_mul, if_pos (cd_inN (by omega) (by decide)), nI_clamp (by omega), r1, cp_149o (Or.inr rfl) (by omega) (hS t ht8) d5 ⟨d6, by omega⟩ ⟨d7, by omega⟩ r5 r6 r7, cw_bi]
          refine cw_m (fun _ => cd_s164_55) ?_
          rw [show ((decide (D 5 c / 8 ≤ S 1 t / 8) && decide (S 1 t / 8 < D 5 c / 8 + D 6 c)) && (decide (D 5 c % 8 ≤ S 1 t % 8) && decide (S 1 t % 8 < D 5 c % 8 + D 7 c))) = cd_und D c (S 1 t) from rfl]
          cases hu : cd_und D c (S 1 t) with
          | false =>
            rw [if_pos (show cd_tf false = 0 by decide)]
            exact bad (by rw [hpH, hu, Bool.not_false, Bool.or_true, Bool.or_true, if_pos rfl])
          | true =>
            rw [hp, hb, hu, Bool.not_true, Bool.or_false, Bool.or_false, if_neg (by decide)] at hpH
            rw [if_neg (show ¬ cd_tf true = 0 by decide)]
            refine cw_cv (cw_mono (cp_154 hn hx t2 hq2 g20) ?_)
            intro v3 I3 J3 ⟨hv3, j3, f3, g320, g322, g321⟩
            refine ⟨hv3, ?_⟩
            have hsk : ce_sk x n e2 ≤ n := (ce_end_b (p := fun k => !decide (x k = 32)) hq2).2.1
            have hwe : ce_we x n (ce_sk x n e2) ≤ n := (ce_end_b (p := fun k => !ce_let (x k)) hsk).2.1
            have hlt := ce_we_let (x := x) hsk
            generalize ce_sk x n e2 = sk at *
            generalize ce_we x n sk = we at *
            have f3' : ∀ a j, ¬ ce_xN a j → I3 a j = I a j := fun a j h => (f3 a j (by unfold ce_xN at h; omega)).trans (f2' a j h)
            have g319 : I3 100 19 = I 100 19 := by rw [f3 _ _ (by omega), g192, g19]
            refine cw_m (fun _ => cd_s164_64) ?_
            rw [cp_163 hx hlt g321, cw_bi]
            refine cw_m (fun _ => cd_s164_66) ?_
            have okp : ∀ (I4 : Nat → Nat → Int32) (bI : Int32) (v : Nat), (∀ a j, ¬ ce_xN a j → I4 a j = I a j) → ∀ a j, ¬ ce_xP a j → (cd_up (cd_up (cd_up (cd_up (cd_up I4 116 (4 * k) (nI c)) 116 (4 * k + 1) (nI t)) 116 (4 * k + 2) (nI v)) 116 (4 * k + 3) bI) 100 29 (nI (k + 1))) a j = I a j := fun I4 bI v f4 a j h => by
              obtain ⟨z1, z2, z3, z4⟩ := xP a j h
              rw [cd_up_k2 z3, cd_up_a z2, cd_up_a z2, cd_up_a z2, cd_up_a z2]
              exact f4 a j z1
            cases hw : ce_kw x sk (we - sk) with
            | none =>
              rw [hw] at hpH
              rw [if_pos (show cd_oi none < 0 by decide), cp_153, cw_bi, g320]
              refine cw_m (fun _ => cd_s164_74) ?_
              rw [hpH]
              refine cw_ret ⟨j3, fun a j h => ?_, rfl, cd_up_s⟩
              obtain ⟨z1, z2, z3, z4⟩ := xP a j h
              rw [cd_up_k2 z4]
              exact f3' a j z1
            | some v =>
              rw [hw] at hpH
              replace hpH : ce_pH x n q D S = ce_bd (ce_pB x n we v) fun b => .ok (b.2, ce_aH D c t, ce_aS D S v b.1) := hpH
              have hv4 : v ≤ 4 := ce_kw_b hw
              have f4 : ∀ a j, ¬ ce_xN a j → cd_up I3 100 20 (nI we) a j = I a j := fun a j h => (cd_up_k2 (by unfold ce_xN at h; omega)).trans (f3' a j h)
              rw [show cd_oi (some v) = nI v from rfl, if_neg (show ¬ nI v < 0 from nI_pos (by omega)), g322]
              by_cases h2 : v = 2
              · subst h2
                rw [if_pos (show nI 2 = 2 from rfl)]
                have t4 : ce_txt x n (cd_up I3 100 20 (nI we)) := ht.of (fun a j h => f4 a j (by unfold ce_xN; omega))
                refine cp_157k hn hx t4 hwe cd_up_s 1 100 (by decide) (by decide) rfl rfl (fun I5 b s5 e5 n5 f5 g523 g24 g520 g519 => ?_) (fun I5 f p n5 hf f5 g519 => ?_)
                · have f5' : ∀ a j, ¬ ce_xN a j → I5 a j = I a j := fun a j h => (f5 a j h).trans (f4 a j h)
                  refine cp_164w hP f5' hkk h12 (by decide) (b := nI b) (fun _ => g523) (fun h => absurd rfl h) ?_
                  rw [hpH, show ce_pB x n we 2 = .ok (b, e5) by unfold ce_pB ce_bd; rw [if_pos rfl, n5]]
                  refine ⟨j3, okp I5 _ 2 f5', rfl, ?_, ce_P_H hP f5' hkk c t 2 b, ?_⟩
                  · rw [cd_up_k (by decide), cd_up_a (by decide), cd_up_a (by decide), cd_up_a (by decide), cd_up_a (by decide)]; exact g520
                  · rw [cd_up_k (by decide), cd_up_a (by decide), cd_up_a (by decide), cd_up_a (by decide), cd_up_a (by decide), g519, cd_up_k (by decide)]; exact g319
                · have f5' : ∀ a j, ¬ ce_xN a j → I5 a j = I a j := fun a j h => (f5 a j h).trans (f4 a j h)
                  refine cp_164w hP f5' hkk h12 (by decide) (b := I5 100 23) (fun _ => rfl) (fun h => absurd rfl h) ?_
                  rw [hpH, show ce_pB x n we 2 = .error (f, p) by unfold ce_pB ce_bd; rw [if_pos rfl, n5]]
                  refine ⟨j3, okp I5 _ 2 f5', rfl, ?_⟩
                  rw [cd_up_k (by decide), cd_up_a (by decide), cd_up_a (by decide), cd_up_a (by decide), cd_up_a (by decide)]; exact g519
              · have hne : ¬ nI v = 2 := fun h => h2 ((nI_eq (by omega) (by decide)).mp (h.trans (show (2 : Int32) = nI 2 from rfl)))
                rw [if_neg hne]
                have q1 : nI (4 * k) + 1 = nI (4 * k + 1) := nI_1 _
                have q2 : nI (4 * k) + 2 = nI (4 * k + 2) := nI_add _ 2
                have q3 : nI (4 * k) + 3 = nI (4 * k + 3) := nI_add _ 3
                have h29 : cd_up I3 100 20 (nI we) 100 29 = nI k := by rw [f4 _ _ (by unfold ce_xN; omega), hP.1.2.2.1, hkk]
                rw [q1, q2, q3, if_pos (cd_inN (by omega) (by decide)), if_pos (cd_inN (by omega) (by decide)), if_pos (cd_inN (by omega) (by decide)), if_neg hne, if_pos (cd_inN (by omega) (by decide)), nI_clamp (by omega), nI_clamp (by omega), nI_clamp (by omega), nI_clamp (by omega), cd_up_a (by decide), cd_up_a (by decide), cd_up_a (by decide), cd_up_a (by decide), h29, nI_1]
                rw [hpH, show ce_pB x n we v = .ok (0, we) by unfold ce_pB; rw [if_neg h2]]
                refine cw_ret ⟨j3, okp _ _ v f4, rfl, ?_, ce_P_H hP f4 hkk c t v 0, ?_⟩
                · rw [cd_up_k (by decide), cd_up_a (by decide), cd_up_a (by decide), cd_up_a (by decide), cd_up_a (by decide)]; exact cd_up_s
                · rw [cd_up_k (by decide), cd_up_a (by decide), cd_up_a (by decide), cd_up_a (by decide), cd_up_a (by decide), cd_up_k (by decide)]; exact g319
    · refine cw_m (fun _ => cd_s164_27) ?_
      rw [if_pos (show (0 : Int32) < nI f from nI_lt (a := 0) (by omega) (by omega))]
      have e : ce_pH x n q D S = .error (f, p) := by
        unfold ce_pH ce_bd
        rw [n1]
        dsimp only
        rw [n2]
      rw [e]
      refine cw_ret ⟨fun _ _ _ => rfl, fun a j h => ?_, rfl, g192⟩
      obtain ⟨z1, z2, z3, z4⟩ := xP a j h
      exact (f2 a j z1).trans (f1 a j z1)
  · have hlt : (0 : Int32) < nI f := nI_lt (a := 0) (by omega) (by omega)
    refine cw_m (fun _ => cd_s164_12) ?_
    rw [if_pos hlt]
    refine cw_m (fun _ => cd_s164_27) ?_
    rw [if_pos hlt]
    have e : ce_pH x n q D S = .error (f, p) := by
      unfold ce_pH ce_bd
      rw [n1]
    rw [e]
    refine cw_ret ⟨fun _ _ _ => rfl, fun a j h => ?_, rfl, g19⟩
    obtain ⟨z1, z2, z3, z4⟩ := xP a j h
    exact f1 a j z1
end CFJ
