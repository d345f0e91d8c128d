/-! ===== the reference: change, fasten ===== -/
/-- the holds of m tied -/
def ce_td (S : cd_S) (m : Nat) : cd_S := fun r k => bif Nat.beq r 2 then (bif m.testBit k then 3 else S 2 k) else bif Nat.beq r 3 then (bif m.testBit k then 0 else S 3 k) else S r k
def ce_btd (D : cd_D) (S : cd_S) (t b m : Nat) : Bool := (ce_next D (ce_td S m) (some t) b).isNone
/-- the first pair -/
def ce_pr (p : Nat → Nat → Bool) : Nat → Nat → Option (Nat × Nat)
  | 0, _ => none
  | d + 1, i => match ce_fst (p i) i 0 with
    | some j => some (i, j)
    | none => ce_pr p d (i + 1)
theorem ce_pr_st {p : Nat → Nat → Bool} {n i : Nat} (h : i < n) : ce_pr p (n - i) i = match ce_fst (p i) i 0 with
    | some j => some (i, j)
    | none => ce_pr p (n - (i + 1)) (i + 1) := by
  obtain ⟨d, hd⟩ : ∃ d, n - i = d + 1 := ⟨n - i - 1, by omega⟩
  rw [hd, show n - (i + 1) = d by omega]
  rfl
theorem ce_pr_en {p : Nat → Nat → Bool} {n : Nat} : ce_pr p (n - n) n = none := by rw [Nat.sub_self]; rfl
def ce_c1 (D : cd_D) (S : cd_S) (t b k : Nat) : Bool := cd_held S k && ce_btd D S t b (2 ^ k)
def ce_c2 (D : cd_D) (S : cd_S) (t b k j : Nat) : Bool := cd_held S k && (cd_held S j && ce_btd D S t b (2 ^ k ||| 2 ^ j))
def ce_chA (D : cd_D) (S : cd_S) (t b : Nat) : Option Nat := if (ce_next D S (some t) b).isNone then some 0 else match ce_fst (ce_c1 D S t b) (D 0 2) 0 with
  | some k => some (2 ^ k)
  | none => match ce_pr (ce_c2 D S t b) (D 0 2) 0 with
    | some x => some (2 ^ x.1 ||| 2 ^ x.2)
    | none => none
def ce_fas (S : cd_S) (k v b : Nat) : cd_S := fun r j => bif Nat.beq r 2 && Nat.beq j k then v else bif Nat.beq r 3 && Nat.beq j k then b else bif Nat.beq r 0 && Nat.beq j 2 then S 0 2 ||| 2 ^ k else S r j
section CEU
variable {L : Nat} {w : Bool} {I : Nat → Nat → Int32} {J : Nat → Nat → Int64} {D : cd_D} {S : cd_S}
variable {Y : ce_Y} {T : cd_S}
theorem ce_2tb {k j : Nat} : (2 ^ k).testBit j = decide (k = j) := by rw [Nat.testBit_two_pow]
theorem cp_230 (hK : ce_ok D S Y) (hM : ce_M D S Y I) {k j t b m : Nat} (hk : k < D 0 2) (hj : j < D 0 2) (ht : t < D 0 0) (hb : b < 1000) (hm : ∀ i, m.testBit i = decide (i = k ∨ i = j)) : cw L w (cd_c 230 [.ref 100, .int (nI j), .int (nI k), .int (nI t), .int (nI b)] (cd_mm L w I J)) (fun v I1 J1 => v = some (.int (cd_tf (ce_btd D S t b m))) ∧ J1 = J ∧ (∀ a k, ¬ (117 ≤ a ∧ a ≤ 119) → ¬ (a = 100 ∧ k = 39) → I1 a k = I a k)) := by
  have h8 := hK.1.1.1
  have h12 := hK.1.1.2.2.1
  refine cw_c (l := [_, _, _, _, _, _, _, _]) rfl rfl ?_
  refine cw_m (fun _ => cd_s230_0) ?_
  simp (disch := omega) only [cw_l0, cw_l1, cw_l2, cw_l3, cw_l4, cw_l5, cw_l6, cw_l7, cw_l8, cw_l9, cw_l10, cw_l11, cw_l12, cw_l13, cw_l14, cw_l15, cw_l16, cw_l17, cw_l18, cw_l19, cw_l20, cw_l27, cw_l28, cw_l31, cw_l32, cw_l40, cw_l52, cw_l60, cw_l61, cw_l63, cw_l64, cw_l80, cw_l97, cw_l99, cw_l100, cw_l255, cw_l500, cw_l999, cw_l65536, cd_inN, nI_clamp, nI_add, pk_mul, cw_subc, cw_zz, pk_div, cw_ltN, cw_eqN, cw_tf0, cw_tf1, cw_tfa, cw_bi, cw_bl, cw_bv, if_true, if_false, Bool.false_eq_true, Bool.true_eq_false, ite_self, cw_neg1, cw_m1a, cw_ztl, cw_zeq, cw_zadd, cw_znadd, cw_nzadd, cw_zsub, cw_zmul, cw_znmul, cw_nzmul, cw_ltNZ, cw_eqZN, cw_eqNZ, cw_ltZN, cw_on, cw_os, cw_c0, cw_c1, cw_c2, cw_c3, cw_c4, cw_c5, cw_c8, cw_c10, cw_c40, cw_c80, cw_c100, cp_144z, cp_140n, cw_mabs, cw_mod8, decide_eq_true_eq, not_false_eq_true, not_true_eq_false, true_and, and_true, false_and, and_false, decide_eq_false_iff_not, Nat.not_lt, Nat.not_le, if_pos, if_neg]
  have hT2 : cd_refS D (fun r i => bif Nat.beq r 2 && (Nat.beq i k || Nat.beq i j) then 3 else S r i) (cd_up (cd_up I 110 j (nI 3)) 110 k (nI 3)) := by
    refine ⟨fun t ht => ?_, fun i hi => ?_⟩
    · rw [cd_up_a (by decide), cd_up_a (by decide), cd_up_a (by decide), cd_up_a (by decide)]
      exact hM.2.1.1 t ht
    · rw [cd_up_a (show (111 : Nat) ≠ 110 by decide), cd_up_a (show (111 : Nat) ≠ 110 by decide), cd_up_a (show (112 : Nat) ≠ 110 by decide), cd_up_a (show (112 : Nat) ≠ 110 by decide)]
      refine ⟨?_, (hM.2.1.2 i hi).2⟩
      show _ = nI (bif true && (Nat.beq i k || Nat.beq i j) then 3 else S 2 i)
      rw [Bool.true_and, cw_beq, cw_beq]
      by_cases h1 : i = k
      · rw [h1, cd_up_s, decide_eq_true rfl]; rfl
      · rw [cd_up_k h1, decide_eq_false h1]
        by_cases h2 : i = j
        · rw [h2, cd_up_s, decide_eq_true rfl]; rfl
        · rw [cd_up_k h2, decide_eq_false h2]; exact (hM.2.1.2 i hi).1
  have hS2 : cd_okS D (fun r i => bif Nat.beq r 2 && (Nat.beq i k || Nat.beq i j) then 3 else S r i) := ⟨hK.2.1.1.1, hK.2.1.1.2.1, hK.2.1.1.2.2.1, fun i hi => ⟨by
    show (bif true && (Nat.beq i k || Nat.beq i j) then 3 else S 2 i) ≤ 4
    have := (hK.2.1.1.2.2.2 i hi).1
    cases (true && (Nat.beq i k || Nat.beq i j)) with
    | true => exact (show (3 : Nat) ≤ 4 by decide)
    | false => exact this, (hK.2.1.1.2.2.2 i hi).2⟩⟩
  have hR2 : cd_refD D (cd_up (cd_up I 110 j (nI 3)) 110 k (nI 3)) := hM.1.of (fun a i h1 h2 => by rw [cd_up_a (by omega), cd_up_a (by omega)])
  have hq : ce_eqS D (ce_eff (fun r i => bif Nat.beq r 2 && (Nat.beq i k || Nat.beq i j) then 3 else S r i) 0) (ce_td S m) := by
    refine ⟨⟨fun _ _ => rfl, rfl, rfl⟩, fun i hi => ?_⟩
    have e1 : ce_td S m 2 i = bif m.testBit i then 3 else S 2 i := rfl
    have e2 : ce_td S m 3 i = bif m.testBit i then 0 else S 3 i := rfl
    have e3 : ce_eff (fun r i => bif Nat.beq r 2 && (Nat.beq i k || Nat.beq i j) then 3 else S r i) 0 2 i = bif (0 : Nat).testBit i then 4 else (bif (Nat.beq i k || Nat.beq i j) then 3 else S 2 i) := rfl
    have e4 : ce_eff (fun r i => bif Nat.beq r 2 && (Nat.beq i k || Nat.beq i j) then 3 else S r i) 0 3 i = bif Nat.beq (bif (Nat.beq i k || Nat.beq i j) then 3 else S 2 i) 2 then S 3 i else 0 := rfl
    rw [e1, e2, e3, e4, hm i, Nat.zero_testBit, cw_beq i k, cw_beq i j]
    by_cases h1 : i = k ∨ i = j
    · rw [decide_eq_true h1]
      have h2 : (decide (i = k) || decide (i = j)) = true := by
        rw [Bool.or_eq_true, decide_eq_true_eq, decide_eq_true_eq]; exact h1
      rw [h2]
      exact ⟨rfl, rfl⟩
    · rw [decide_eq_false h1]
      have h2 : (decide (i = k) || decide (i = j)) = false := by
        rw [Bool.or_eq_false_iff, decide_eq_false_iff_not, decide_eq_false_iff_not]
        exact ⟨fun q => h1 (Or.inl q), fun q => h1 (Or.inr q)⟩
      rw [h2]
      refine ⟨rfl, ?_⟩
      show (bif Nat.beq (S 2 i) 2 then S 3 i else 0) = S 3 i
      rw [cw_beq]
      by_cases h3 : S 2 i = 2
      · rw [decide_eq_true h3]; rfl
      · rw [decide_eq_false h3, hK.2.1.2.2.2.1 i hi h3]; rfl
  refine cw_ci (cw_mono (cp_193 hK.1 hS2 hR2 hT2 (h := 0) (by rw [cd_up_a (by decide), cd_up_a (by decide)]; exact hM.2.2.1) (by decide) (o := some t) (b := b) (by omega) (fun u q => by cases q; omega)) ?_)
  intro v I3 J3 ⟨hv, hJ, f3, _⟩
  subst hv hJ
  refine ⟨_, rfl, ?_⟩
  have g := ce_nx0 (fun e h => ce_next3 (D := D) (S := ce_td S m) (o := some t) (b := b) (e := e) h)
  rw [hq.next hK.1]
  have hf : ∀ a i, ¬ (117 ≤ a ∧ a ≤ 119) → ¬ (a = 100 ∧ i = 39) → cd_up (cd_up I3 110 k (I 110 k)) 110 j (I 110 j) a i = I a i := fun a i h1 h2 => by
    by_cases h3 : a = 110
    · subst h3
      by_cases h4 : i = j
      · rw [h4, cd_up_s]
      · rw [cd_up_k h4]
        by_cases h5 : i = k
        · rw [h5, cd_up_s]
        · rw [cd_up_k h5, f3 _ _ h1 h2, cd_up_k h5, cd_up_k h4]
    · rw [cd_up_a h3, cd_up_a h3, f3 a i h1 h2, cd_up_a h3, cd_up_a h3]
  unfold ce_btd
  refine cw_m (fun _ => cd_s230_24) ?_
  simp (disch := omega) only [cw_l0, cw_l1, cw_l2, cw_l3, cw_l4, cw_l5, cw_l6, cw_l7, cw_l8, cw_l9, cw_l10, cw_l11, cw_l12, cw_l13, cw_l14, cw_l15, cw_l16, cw_l17, cw_l18, cw_l19, cw_l20, cw_l27, cw_l28, cw_l31, cw_l32, cw_l40, cw_l52, cw_l60, cw_l61, cw_l63, cw_l64, cw_l80, cw_l97, cw_l99, cw_l100, cw_l255, cw_l500, cw_l999, cw_l65536, cd_inN, nI_clamp, nI_add, pk_mul, cw_subc, cw_zz, pk_div, cw_ltN, cw_eqN, cw_tf0, cw_tf1, cw_tfa, cw_bi, cw_bl, cw_bv, if_true, if_false, Bool.false_eq_true, Bool.true_eq_false, ite_self, cw_neg1, cw_m1a, cw_ztl, cw_zeq, cw_zadd, cw_znadd, cw_nzadd, cw_zsub, cw_zmul, cw_znmul, cw_nzmul, cw_ltNZ, cw_eqZN, cw_eqNZ, cw_ltZN, cw_on, cw_os, cw_c0, cw_c1, cw_c2, cw_c3, cw_c4, cw_c5, cw_c8, cw_c10, cw_c40, cw_c80, cw_c100, cp_144z, cp_140n, cw_mabs, cw_mod8, decide_eq_true_eq, not_false_eq_true, not_true_eq_false, true_and, and_true, false_and, and_false, decide_eq_false_iff_not, Nat.not_lt, Nat.not_le, if_pos, if_neg, g]
  cases hn : ce_next D (ce_td S m) (some t) b with
  | none => exact cw_ret ⟨rfl, rfl, hf⟩
  | some e => exact cw_ret ⟨rfl, rfl, hf⟩
theorem cp_231n (hK : ce_ok D S Y) (hM : ce_M D S Y I) {x y : Int32} (hx : ce_ix x (D 0 0) = false) : cw L w (cd_c 231 [.ref 100, .int x, .int y] (cd_mm L w I J)) (ce_post (.int (-1001)) D S Y I J) := by
  refine cw_c (l := [_, _, _, _, _]) rfl rfl ?_
  refine cw_m (fun _ => cd_s231_0) ?_
  simp (disch := omega) only [cw_l0, cw_l1, cw_l2, cw_l3, cw_l4, cw_l5, cw_l6, cw_l7, cw_l8, cw_l9, cw_l10, cw_l11, cw_l12, cw_l13, cw_l14, cw_l15, cw_l16, cw_l17, cw_l18, cw_l19, cw_l20, cw_l27, cw_l28, cw_l31, cw_l32, cw_l40, cw_l52, cw_l60, cw_l61, cw_l63, cw_l64, cw_l80, cw_l97, cw_l99, cw_l100, cw_l255, cw_l500, cw_l999, cw_l65536, cd_inN, nI_clamp, nI_add, pk_mul, cw_subc, cw_zz, pk_div, cw_ltN, cw_eqN, cw_tf0, cw_tf1, cw_tfa, cw_bi, cw_bl, cw_bv, if_true, if_false, Bool.false_eq_true, Bool.true_eq_false, ite_self, cw_neg1, cw_m1a, cw_ztl, cw_zeq, cw_zadd, cw_znadd, cw_nzadd, cw_zsub, cw_zmul, cw_znmul, cw_nzmul, cw_ltNZ, cw_eqZN, cw_eqNZ, cw_ltZN, cw_on, cw_os, cw_c0, cw_c1, cw_c2, cw_c3, cw_c4, cw_c5, cw_c8, cw_c10, cw_c40, cw_c80, cw_c100, cp_144z, cp_140n, cw_mabs, cw_mod8, decide_eq_true_eq, not_false_eq_true, not_true_eq_false, true_and, and_true, false_and, and_false, decide_eq_false_iff_not, Nat.not_lt, Nat.not_le, cp_141 hM.1 hK.1, hx]
  refine cw_m (fun _ => cd_s231_3) ?_
  simp (disch := omega) only [cw_l0, cw_l1, cw_l2, cw_l3, cw_l4, cw_l5, cw_l6, cw_l7, cw_l8, cw_l9, cw_l10, cw_l11, cw_l12, cw_l13, cw_l14, cw_l15, cw_l16, cw_l17, cw_l18, cw_l19, cw_l20, cw_l27, cw_l28, cw_l31, cw_l32, cw_l40, cw_l52, cw_l60, cw_l61, cw_l63, cw_l64, cw_l80, cw_l97, cw_l99, cw_l100, cw_l255, cw_l500, cw_l999, cw_l65536, cd_inN, nI_clamp, nI_add, pk_mul, cw_subc, cw_zz, pk_div, cw_ltN, cw_eqN, cw_tf0, cw_tf1, cw_tfa, cw_bi, cw_bl, cw_bv, if_true, if_false, Bool.false_eq_true, Bool.true_eq_false, ite_self, cw_neg1, cw_m1a, cw_ztl, cw_zeq, cw_zadd, cw_znadd, cw_nzadd, cw_zsub, cw_zmul, cw_znmul, cw_nzmul, cw_ltNZ, cw_eqZN, cw_eqNZ, cw_ltZN, cw_on, cw_os, cw_c0, cw_c1, cw_c2, cw_c3, cw_c4, cw_c5, cw_c8, cw_c10, cw_c40, cw_c80, cw_c100, cp_144z, cp_140n, cw_mabs, cw_mod8, decide_eq_true_eq, not_false_eq_true, not_true_eq_false, true_and, and_true, false_and, and_false, decide_eq_false_iff_not, Nat.not_lt, Nat.not_le]
  exact cw_ret ⟨rfl, hM, ce_fC.rf⟩
theorem cp_231o (hK : ce_ok D S Y) (hM : ce_M D S Y I) {x y : Int32} (hx : ce_ix x (D 0 0) = true) (hy : ce_ix y 1000 = false) : cw L w (cd_c 231 [.ref 100, .int x, .int y] (cd_mm L w I J)) (ce_post (.int (-1002)) D S Y I J) := by
  refine cw_c (l := [_, _, _, _, _]) rfl rfl ?_
  refine cw_m (fun _ => cd_s231_0) ?_
  simp (disch := omega) only [cw_l0, cw_l1, cw_l2, cw_l3, cw_l4, cw_l5, cw_l6, cw_l7, cw_l8, cw_l9, cw_l10, cw_l11, cw_l12, cw_l13, cw_l14, cw_l15, cw_l16, cw_l17, cw_l18, cw_l19, cw_l20, cw_l27, cw_l28, cw_l31, cw_l32, cw_l40, cw_l52, cw_l60, cw_l61, cw_l63, cw_l64, cw_l80, cw_l97, cw_l99, cw_l100, cw_l255, cw_l500, cw_l999, cw_l65536, cd_inN, nI_clamp, nI_add, pk_mul, cw_subc, cw_zz, pk_div, cw_ltN, cw_eqN, cw_tf0, cw_tf1, cw_tfa, cw_bi, cw_bl, cw_bv, if_true, if_false, Bool.false_eq_true, Bool.true_eq_false, ite_self, cw_neg1, cw_m1a, cw_ztl, cw_zeq, cw_zadd, cw_znadd, cw_nzadd, cw_zsub, cw_zmul, cw_znmul, cw_nzmul, cw_ltNZ, cw_eqZN, cw_eqNZ, cw_ltZN, cw_on, cw_os, cw_c0, cw_c1, cw_c2, cw_c3, cw_c4, cw_c5, cw_c8, cw_c10, cw_c40, cw_c80, cw_c100, cp_144z, cp_140n, cw_mabs, cw_mod8, decide_eq_true_eq, not_false_eq_true, not_true_eq_false, true_and, and_true, false_and, and_false, decide_eq_false_iff_not, Nat.not_lt, Nat.not_le, cp_141 hM.1 hK.1, hx]
  refine cw_m (fun _ => cd_s231_3) ?_
  simp (disch := omega) only [cw_l0, cw_l1, cw_l2, cw_l3, cw_l4, cw_l5, cw_l6, cw_l7, cw_l8, cw_l9, cw_l10, cw_l11, cw_l12, cw_l13, cw_l14, cw_l15, cw_l16, cw_l17, cw_l18, cw_l19, cw_l20, cw_l27, cw_l28, cw_l31, cw_l32, cw_l40, cw_l52, cw_l60, cw_l61, cw_l63, cw_l64, cw_l80, cw_l97, cw_l99, cw_l100, cw_l255, cw_l500, cw_l999, cw_l65536, cd_inN, nI_clamp, nI_add, pk_mul, cw_subc, cw_zz, pk_div, cw_ltN, cw_eqN, cw_tf0, cw_tf1, cw_tfa, cw_bi, cw_bl, cw_bv, if_true, if_false, Bool.false_eq_true, Bool.true_eq_false, ite_self, cw_neg1, cw_m1a, cw_ztl, cw_zeq, cw_zadd, cw_znadd, cw_nzadd, cw_zsub, cw_zmul, cw_znmul, cw_nzmul, cw_ltNZ, cw_eqZN, cw_eqNZ, cw_ltZN, cw_on, cw_os, cw_c0, cw_c1, cw_c2, cw_c3, cw_c4, cw_c5, cw_c8, cw_c10, cw_c40, cw_c80, cw_c100, cp_144z, cp_140n, cw_mabs, cw_mod8, decide_eq_true_eq, not_false_eq_true, not_true_eq_false, true_and, and_true, false_and, and_false, decide_eq_false_iff_not, Nat.not_lt, Nat.not_le, cp_143, hy]
  refine cw_m (fun _ => cd_s231_8) ?_
  simp (disch := omega) only [cw_l0, cw_l1, cw_l2, cw_l3, cw_l4, cw_l5, cw_l6, cw_l7, cw_l8, cw_l9, cw_l10, cw_l11, cw_l12, cw_l13, cw_l14, cw_l15, cw_l16, cw_l17, cw_l18, cw_l19, cw_l20, cw_l27, cw_l28, cw_l31, cw_l32, cw_l40, cw_l52, cw_l60, cw_l61, cw_l63, cw_l64, cw_l80, cw_l97, cw_l99, cw_l100, cw_l255, cw_l500, cw_l999, cw_l65536, cd_inN, nI_clamp, nI_add, pk_mul, cw_subc, cw_zz, pk_div, cw_ltN, cw_eqN, cw_tf0, cw_tf1, cw_tfa, cw_bi, cw_bl, cw_bv, if_true, if_false, Bool.false_eq_true, Bool.true_eq_false, ite_self, cw_neg1, cw_m1a, cw_ztl, cw_zeq, cw_zadd, cw_znadd, cw_nzadd, cw_zsub, cw_zmul, cw_znmul, cw_nzmul, cw_ltNZ, cw_eqZN, cw_eqNZ, cw_ltZN, cw_on, cw_os, cw_c0, cw_c1, cw_c2, cw_c3, cw_c4, cw_c5, cw_c8, cw_c10, cw_c40, cw_c80, cw_c100, cp_144z, cp_140n, cw_mabs, cw_mod8, decide_eq_true_eq, not_false_eq_true, not_true_eq_false, true_and, and_true, false_and, and_false, decide_eq_false_iff_not, Nat.not_lt, Nat.not_le]
  exact cw_ret ⟨rfl, hM, ce_fC.rf⟩
theorem cp_231 (hK : ce_ok D S Y) (hM : ce_M D S Y I) {t b : Nat} (ht : t < D 0 0) (hb : b < 1000) : cw L w (cd_c 231 [.ref 100, .int (nI t), .int (nI b)] (cd_mm L w I J)) (ce_post (.int (cd_oi (ce_chA D S t b))) D S Y I J) := by
  have h8 := hK.1.1.1
  have h12 := hK.1.1.2.2.1
  have e := ce_ix_n ht (by omega)
  have e2 := ce_ix_n hb (by decide)
  refine cw_c (l := [_, _, _, _, _]) rfl rfl ?_
  refine cw_m (fun _ => cd_s231_0) ?_
  simp (disch := omega) only [cw_l0, cw_l1, cw_l2, cw_l3, cw_l4, cw_l5, cw_l6, cw_l7, cw_l8, cw_l9, cw_l10, cw_l11, cw_l12, cw_l13, cw_l14, cw_l15, cw_l16, cw_l17, cw_l18, cw_l19, cw_l20, cw_l27, cw_l28, cw_l31, cw_l32, cw_l40, cw_l52, cw_l60, cw_l61, cw_l63, cw_l64, cw_l80, cw_l97, cw_l99, cw_l100, cw_l255, cw_l500, cw_l999, cw_l65536, cd_inN, nI_clamp, nI_add, pk_mul, cw_subc, cw_zz, pk_div, cw_ltN, cw_eqN, cw_tf0, cw_tf1, cw_tfa, cw_bi, cw_bl, cw_bv, if_true, if_false, Bool.false_eq_true, Bool.true_eq_false, ite_self, cw_neg1, cw_m1a, cw_ztl, cw_zeq, cw_zadd, cw_znadd, cw_nzadd, cw_zsub, cw_zmul, cw_znmul, cw_nzmul, cw_ltNZ, cw_eqZN, cw_eqNZ, cw_ltZN, cw_on, cw_os, cw_c0, cw_c1, cw_c2, cw_c3, cw_c4, cw_c5, cw_c8, cw_c10, cw_c40, cw_c80, cw_c100, cp_144z, cp_140n, cw_mabs, cw_mod8, decide_eq_true_eq, not_false_eq_true, not_true_eq_false, true_and, and_true, false_and, and_false, decide_eq_false_iff_not, Nat.not_lt, Nat.not_le, cp_141 hM.1 hK.1, e]
  refine cw_m (fun _ => cd_s231_3) ?_
  simp (disch := omega) only [cw_l0, cw_l1, cw_l2, cw_l3, cw_l4, cw_l5, cw_l6, cw_l7, cw_l8, cw_l9, cw_l10, cw_l11, cw_l12, cw_l13, cw_l14, cw_l15, cw_l16, cw_l17, cw_l18, cw_l19, cw_l20, cw_l27, cw_l28, cw_l31, cw_l32, cw_l40, cw_l52, cw_l60, cw_l61, cw_l63, cw_l64, cw_l80, cw_l97, cw_l99, cw_l100, cw_l255, cw_l500, cw_l999, cw_l65536, cd_inN, nI_clamp, nI_add, pk_mul, cw_subc, cw_zz, pk_div, cw_ltN, cw_eqN, cw_tf0, cw_tf1, cw_tfa, cw_bi, cw_bl, cw_bv, if_true, if_false, Bool.false_eq_true, Bool.true_eq_false, ite_self, cw_neg1, cw_m1a, cw_ztl, cw_zeq, cw_zadd, cw_znadd, cw_nzadd, cw_zsub, cw_zmul, cw_znmul, cw_nzmul, cw_ltNZ, cw_eqZN, cw_eqNZ, cw_ltZN, cw_on, cw_os, cw_c0, cw_c1, cw_c2, cw_c3, cw_c4, cw_c5, cw_c8, cw_c10, cw_c40, cw_c80, cw_c100, cp_144z, cp_140n, cw_mabs, cw_mod8, decide_eq_true_eq, not_false_eq_true, not_true_eq_false, true_and, and_true, false_and, and_false, decide_eq_false_iff_not, Nat.not_lt, Nat.not_le, cp_143, e2]
  refine cw_m (fun _ => cd_s231_8) ?_
  rw [if_neg (show ¬ cd_tf true = 0 by decide)]
  refine cw_ci (cw_mono (cp_193w hK.1 hK.2.1 hM.1 hM.2.1 hM.2.2.1 (o := some t) (b := b) (by omega) (fun u q => by cases q; omega)) ?_)
  intro v I1 J1 ⟨hv, hJ, f1⟩
  subst hv hJ
  refine ⟨_, rfl, ?_⟩
  have hF : ce_fC I J1 I1 J1 := ce_fCr (fun a k h => f1 a k (by omega) (by omega))
  have g := ce_nx0 (fun e h => ce_next3 (D := D) (S := S) (o := some t) (b := b) (e := e) h)
  have out : ∀ (I2 : Nat → Nat → Int32) (x : Option Nat), (∀ a k, ¬ (117 ≤ a ∧ a ≤ 119) → ¬ (a = 100 ∧ k = 39) → I2 a k = I a k) → x = ce_chA D S t b → ce_post (.int (cd_oi (ce_chA D S t b))) D S Y I J1 (some (.int (cd_oi x))) I2 J1 := fun I2 x hf hx => ⟨by rw [hx], hM.sc hK.1 hf, ce_fCr (fun a k h => hf a k (by omega) (by omega))⟩
  refine cw_m (fun _ => cd_s231_15) ?_
  cases hn : ce_next D S (some t) b with
  | none =>
    rw [hn] at g
    simp (disch := omega) only [cw_l0, cw_l1, cw_l2, cw_l3, cw_l4, cw_l5, cw_l6, cw_l7, cw_l8, cw_l9, cw_l10, cw_l11, cw_l12, cw_l13, cw_l14, cw_l15, cw_l16, cw_l17, cw_l18, cw_l19, cw_l20, cw_l27, cw_l28, cw_l31, cw_l32, cw_l40, cw_l52, cw_l60, cw_l61, cw_l63, cw_l64, cw_l80, cw_l97, cw_l99, cw_l100, cw_l255, cw_l500, cw_l999, cw_l65536, cd_inN, nI_clamp, nI_add, pk_mul, cw_subc, cw_zz, pk_div, cw_ltN, cw_eqN, cw_tf0, cw_tf1, cw_tfa, cw_bi, cw_bl, cw_bv, if_true, if_false, Bool.false_eq_true, Bool.true_eq_false, ite_self, cw_neg1, cw_m1a, cw_ztl, cw_zeq, cw_zadd, cw_znadd, cw_nzadd, cw_zsub, cw_zmul, cw_znmul, cw_nzmul, cw_ltNZ, cw_eqZN, cw_eqNZ, cw_ltZN, cw_on, cw_os, cw_c0, cw_c1, cw_c2, cw_c3, cw_c4, cw_c5, cw_c8, cw_c10, cw_c40, cw_c80, cw_c100, cp_144z, cp_140n, cw_mabs, cw_mod8, decide_eq_true_eq, not_false_eq_true, not_true_eq_false, true_and, and_true, false_and, and_false, decide_eq_false_iff_not, Nat.not_lt, Nat.not_le, g]
    exact cw_ret (out I1 (some 0) f1 (by unfold ce_chA; rw [hn]; rfl))
  | some e0 =>
    rw [hn] at g
    have hA : ce_chA D S t b = match ce_fst (ce_c1 D S t b) (D 0 2) 0 with
      | some k => some (2 ^ k)
      | none => match ce_pr (ce_c2 D S t b) (D 0 2) 0 with
        | some x => some (2 ^ x.1 ||| 2 ^ x.2)
        | none => none := by
      unfold ce_chA
      rw [hn]
      rfl
    simp (disch := omega) only [cw_l0, cw_l1, cw_l2, cw_l3, cw_l4, cw_l5, cw_l6, cw_l7, cw_l8, cw_l9, cw_l10, cw_l11, cw_l12, cw_l13, cw_l14, cw_l15, cw_l16, cw_l17, cw_l18, cw_l19, cw_l20, cw_l27, cw_l28, cw_l31, cw_l32, cw_l40, cw_l52, cw_l60, cw_l61, cw_l63, cw_l64, cw_l80, cw_l97, cw_l99, cw_l100, cw_l255, cw_l500, cw_l999, cw_l65536, cd_inN, nI_clamp, nI_add, pk_mul, cw_subc, cw_zz, pk_div, cw_ltN, cw_eqN, cw_tf0, cw_tf1, cw_tfa, cw_bi, cw_bl, cw_bv, if_true, if_false, Bool.false_eq_true, Bool.true_eq_false, ite_self, cw_neg1, cw_m1a, cw_ztl, cw_zeq, cw_zadd, cw_znadd, cw_nzadd, cw_zsub, cw_zmul, cw_znmul, cw_nzmul, cw_ltNZ, cw_eqZN, cw_eqNZ, cw_ltZN, cw_on, cw_os, cw_c0, cw_c1, cw_c2, cw_c3, cw_c4, cw_c5, cw_c8, cw_c10, cw_c40, cw_c80, cw_c100, cp_144z, cp_140n, cw_mabs, cw_mod8, decide_eq_true_eq, not_false_eq_true, not_true_eq_false, true_and, and_true, false_and, and_false, decide_eq_false_iff_not, Nat.not_lt, Nat.not_le, g]
    refine cw_up (fun i (I2 : Nat → Nat → Int32) => cd_go 231 20 [.ref 100, .int (nI t), .int (nI b), .int (nI i), .null] [] (cd_mm L w I2 J1)) (fun i I2 => (∀ a k, ¬ (117 ≤ a ∧ a ≤ 119) → ¬ (a = 100 ∧ k = 39) → I2 a k = I a k) ∧ ce_fst (ce_c1 D S t b) (D 0 2) 0 = ce_fst (ce_c1 D S t b) (D 0 2 - i) i) (D 0 2) ?_ ?_ 0 I1 (by omega) ⟨f1, rfl⟩
    · intro I2 ⟨f2, q1⟩
      rw [ce_fst_en] at q1
      rw [q1] at hA
      dsimp only at hA
      have hM2 := hM.sc hK.1 f2
      refine cw_m (fun _ => cd_s231_20) ?_
      simp (disch := omega) only [cw_l0, cw_l1, cw_l2, cw_l3, cw_l4, cw_l5, cw_l6, cw_l7, cw_l8, cw_l9, cw_l10, cw_l11, cw_l12, cw_l13, cw_l14, cw_l15, cw_l16, cw_l17, cw_l18, cw_l19, cw_l20, cw_l27, cw_l28, cw_l31, cw_l32, cw_l40, cw_l52, cw_l60, cw_l61, cw_l63, cw_l64, cw_l80, cw_l97, cw_l99, cw_l100, cw_l255, cw_l500, cw_l999, cw_l65536, cd_inN, nI_clamp, nI_add, pk_mul, cw_subc, cw_zz, pk_div, cw_ltN, cw_eqN, cw_tf0, cw_tf1, cw_tfa, cw_bi, cw_bl, cw_bv, if_true, if_false, Bool.false_eq_true, Bool.true_eq_false, ite_self, cw_neg1, cw_m1a, cw_ztl, cw_zeq, cw_zadd, cw_znadd, cw_nzadd, cw_zsub, cw_zmul, cw_znmul, cw_nzmul, cw_ltNZ, cw_eqZN, cw_eqNZ, cw_ltZN, cw_on, cw_os, cw_c0, cw_c1, cw_c2, cw_c3, cw_c4, cw_c5, cw_c8, cw_c10, cw_c40, cw_c80, cw_c100, cp_144z, cp_140n, cw_mabs, cw_mod8, decide_eq_true_eq, not_false_eq_true, not_true_eq_false, true_and, and_true, false_and, and_false, decide_eq_false_iff_not, Nat.not_lt, Nat.not_le, if_pos, if_neg, hM2.1.1.2.2.1]
      refine cw_up (fun i (s : (Nat → Nat → Int32) × Value) => cd_go 231 44 [.ref 100, .int (nI t), .int (nI b), .int (nI i), s.2] [] (cd_mm L w s.1 J1)) (fun i s => (∀ a k, ¬ (117 ≤ a ∧ a ≤ 119) → ¬ (a = 100 ∧ k = 39) → s.1 a k = I a k) ∧ ce_pr (ce_c2 D S t b) (D 0 2) 0 = ce_pr (ce_c2 D S t b) (D 0 2 - i) i) (D 0 2) ?_ ?_ 0 (I2, .null) (by omega) ⟨f2, rfl⟩
      · intro ⟨I3, u⟩ ⟨f3, q2⟩
        replace f3 : ∀ a k, ¬ (117 ≤ a ∧ a ≤ 119) → ¬ (a = 100 ∧ k = 39) → I3 a k = I a k := f3
        rw [ce_pr_en] at q2
        have hM3 := hM.sc hK.1 f3
        refine cw_m (fun _ => cd_s231_44) ?_
        simp (disch := omega) only [cw_l0, cw_l1, cw_l2, cw_l3, cw_l4, cw_l5, cw_l6, cw_l7, cw_l8, cw_l9, cw_l10, cw_l11, cw_l12, cw_l13, cw_l14, cw_l15, cw_l16, cw_l17, cw_l18, cw_l19, cw_l20, cw_l27, cw_l28, cw_l31, cw_l32, cw_l40, cw_l52, cw_l60, cw_l61, cw_l63, cw_l64, cw_l80, cw_l97, cw_l99, cw_l100, cw_l255, cw_l500, cw_l999, cw_l65536, cd_inN, nI_clamp, nI_add, pk_mul, cw_subc, cw_zz, pk_div, cw_ltN, cw_eqN, cw_tf0, cw_tf1, cw_tfa, cw_bi, cw_bl, cw_bv, if_true, if_false, Bool.false_eq_true, Bool.true_eq_false, ite_self, cw_neg1, cw_m1a, cw_ztl, cw_zeq, cw_zadd, cw_znadd, cw_nzadd, cw_zsub, cw_zmul, cw_znmul, cw_nzmul, cw_ltNZ, cw_eqZN, cw_eqNZ, cw_ltZN, cw_on, cw_os, cw_c0, cw_c1, cw_c2, cw_c3, cw_c4, cw_c5, cw_c8, cw_c10, cw_c40, cw_c80, cw_c100, cp_144z, cp_140n, cw_mabs, cw_mod8, decide_eq_true_eq, not_false_eq_true, not_true_eq_false, true_and, and_true, false_and, and_false, decide_eq_false_iff_not, Nat.not_lt, Nat.not_le, if_pos, if_neg, hM3.1.1.2.2.1]
        exact cw_ret (out I3 none f3 (by rw [hA, q2]))
      · intro i ⟨I3, u⟩ hi ⟨f3, q2⟩ K
        replace f3 : ∀ a k, ¬ (117 ≤ a ∧ a ≤ 119) → ¬ (a = 100 ∧ k = 39) → I3 a k = I a k := f3
        rw [ce_pr_st hi] at q2
        have hM3 := hM.sc hK.1 f3
        refine cw_m (fun _ => cd_s231_44) ?_
        simp (disch := omega) only [cw_l0, cw_l1, cw_l2, cw_l3, cw_l4, cw_l5, cw_l6, cw_l7, cw_l8, cw_l9, cw_l10, cw_l11, cw_l12, cw_l13, cw_l14, cw_l15, cw_l16, cw_l17, cw_l18, cw_l19, cw_l20, cw_l27, cw_l28, cw_l31, cw_l32, cw_l40, cw_l52, cw_l60, cw_l61, cw_l63, cw_l64, cw_l80, cw_l97, cw_l99, cw_l100, cw_l255, cw_l500, cw_l999, cw_l65536, cd_inN, nI_clamp, nI_add, pk_mul, cw_subc, cw_zz, pk_div, cw_ltN, cw_eqN, cw_tf0, cw_tf1, cw_tfa, cw_bi, cw_bl, cw_bv, if_true, if_false, Bool.false_eq_true, Bool.true_eq_false, ite_self, cw_neg1, cw_m1a, cw_ztl, cw_zeq, cw_zadd, cw_znadd, cw_nzadd, cw_zsub, cw_zmul, cw_znmul, cw_nzmul, cw_ltNZ, cw_eqZN, cw_eqNZ, cw_ltZN, cw_on, cw_os, cw_c0, cw_c1, cw_c2, cw_c3, cw_c4, cw_c5, cw_c8, cw_c10, cw_c40, cw_c80, cw_c100, cp_144z, cp_140n, cw_mabs, cw_mod8, decide_eq_true_eq, not_false_eq_true, not_true_eq_false, true_and, and_true, false_and, and_false, decide_eq_false_iff_not, Nat.not_lt, Nat.not_le, if_pos, if_neg, hM3.1.1.2.2.1]
        refine cw_up (fun j (I4 : Nat → Nat → Int32) => cd_go 231 50 [.ref 100, .int (nI t), .int (nI b), .int (nI i), .int (nI j)] [] (cd_mm L w I4 J1)) (fun j I4 => (∀ a k, ¬ (117 ≤ a ∧ a ≤ 119) → ¬ (a = 100 ∧ k = 39) → I4 a k = I a k) ∧ ce_fst (ce_c2 D S t b i) i 0 = ce_fst (ce_c2 D S t b i) (i - j) j) i ?_ ?_ 0 I3 (by omega) ⟨f3, rfl⟩
        · intro I4 ⟨f4, q3⟩
          rw [ce_fst_en] at q3
          rw [q3] at q2
          refine cw_m (fun _ => cd_s231_50) ?_
          simp (disch := omega) only [cw_l0, cw_l1, cw_l2, cw_l3, cw_l4, cw_l5, cw_l6, cw_l7, cw_l8, cw_l9, cw_l10, cw_l11, cw_l12, cw_l13, cw_l14, cw_l15, cw_l16, cw_l17, cw_l18, cw_l19, cw_l20, cw_l27, cw_l28, cw_l31, cw_l32, cw_l40, cw_l52, cw_l60, cw_l61, cw_l63, cw_l64, cw_l80, cw_l97, cw_l99, cw_l100, cw_l255, cw_l500, cw_l999, cw_l65536, cd_inN, nI_clamp, nI_add, pk_mul, cw_subc, cw_zz, pk_div, cw_ltN, cw_eqN, cw_tf0, cw_tf1, cw_tfa, cw_bi, cw_bl, cw_bv, if_true, if_false, Bool.false_eq_true, Bool.true_eq_false, ite_self, cw_neg1, cw_m1a, cw_ztl, cw_zeq, cw_zadd, cw_znadd, cw_nzadd, cw_zsub, cw_zmul, cw_znmul, cw_nzmul, cw_ltNZ, cw_eqZN, cw_eqNZ, cw_ltZN, cw_on, cw_os, cw_c0, cw_c1, cw_c2, cw_c3, cw_c4, cw_c5, cw_c8, cw_c10, cw_c40, cw_c80, cw_c100, cp_144z, cp_140n, cw_mabs, cw_mod8, decide_eq_true_eq, not_false_eq_true, not_true_eq_false, true_and, and_true, false_and, and_false, decide_eq_false_iff_not, Nat.not_lt, Nat.not_le, if_pos, if_neg]
          exact K (I4, .int (nI i)) ⟨f4, q2⟩
        · intro j I4 hj ⟨f4, q3⟩ K2
          rw [ce_fst_st hj] at q3
          have K2 : ∀ I5, (∀ a k, ¬ (117 ≤ a ∧ a ≤ 119) → ¬ (a = 100 ∧ k = 39) → I5 a k = I a k) → ce_c2 D S t b i j = false → cw L w (cd_go 231 50 [.ref 100, .int (nI t), .int (nI b), .int (nI i), .int (nI (j + 1))] [] (cd_mm L w I5 J1)) _ := fun I5 f5 hc => K2 I5 ⟨f5, by rw [q3, hc]; rfl⟩
          have hM4 := hM.sc hK.1 f4
          have t4 := (hM4.2.1.2 i hi).2.2
          have t5 := (hM4.2.1.2 j (by omega)).2.2
          refine cw_m (fun _ => cd_s231_50) ?_
          cases h1 : (S 0 2).testBit i with
          | false =>
            simp (disch := omega) only [cw_l0, cw_l1, cw_l2, cw_l3, cw_l4, cw_l5, cw_l6, cw_l7, cw_l8, cw_l9, cw_l10, cw_l11, cw_l12, cw_l13, cw_l14, cw_l15, cw_l16, cw_l17, cw_l18, cw_l19, cw_l20, cw_l27, cw_l28, cw_l31, cw_l32, cw_l40, cw_l52, cw_l60, cw_l61, cw_l63, cw_l64, cw_l80, cw_l97, cw_l99, cw_l100, cw_l255, cw_l500, cw_l999, cw_l65536, cd_inN, nI_clamp, nI_add, pk_mul, cw_subc, cw_zz, pk_div, cw_ltN, cw_eqN, cw_tf0, cw_tf1, cw_tfa, cw_bi, cw_bl, cw_bv, if_true, if_false, Bool.false_eq_true, Bool.true_eq_false, ite_self, cw_neg1, cw_m1a, cw_ztl, cw_zeq, cw_zadd, cw_znadd, cw_nzadd, cw_zsub, cw_zmul, cw_znmul, cw_nzmul, cw_ltNZ, cw_eqZN, cw_eqNZ, cw_ltZN, cw_on, cw_os, cw_c0, cw_c1, cw_c2, cw_c3, cw_c4, cw_c5, cw_c8, cw_c10, cw_c40, cw_c80, cw_c100, cp_144z, cp_140n, cw_mabs, cw_mod8, decide_eq_true_eq, not_false_eq_true, not_true_eq_false, true_and, and_true, false_and, and_false, decide_eq_false_iff_not, Nat.not_lt, Nat.not_le, if_pos, if_neg, t4, h1]
            exact K2 I4 f4 (by unfold ce_c2 cd_held; rw [h1]; rfl)
          | true =>
            cases h2 : (S 0 2).testBit j with
            | false =>
              simp (disch := omega) only [cw_l0, cw_l1, cw_l2, cw_l3, cw_l4, cw_l5, cw_l6, cw_l7, cw_l8, cw_l9, cw_l10, cw_l11, cw_l12, cw_l13, cw_l14, cw_l15, cw_l16, cw_l17, cw_l18, cw_l19, cw_l20, cw_l27, cw_l28, cw_l31, cw_l32, cw_l40, cw_l52, cw_l60, cw_l61, cw_l63, cw_l64, cw_l80, cw_l97, cw_l99, cw_l100, cw_l255, cw_l500, cw_l999, cw_l65536, cd_inN, nI_clamp, nI_add, pk_mul, cw_subc, cw_zz, pk_div, cw_ltN, cw_eqN, cw_tf0, cw_tf1, cw_tfa, cw_bi, cw_bl, cw_bv, if_true, if_false, Bool.false_eq_true, Bool.true_eq_false, ite_self, cw_neg1, cw_m1a, cw_ztl, cw_zeq, cw_zadd, cw_znadd, cw_nzadd, cw_zsub, cw_zmul, cw_znmul, cw_nzmul, cw_ltNZ, cw_eqZN, cw_eqNZ, cw_ltZN, cw_on, cw_os, cw_c0, cw_c1, cw_c2, cw_c3, cw_c4, cw_c5, cw_c8, cw_c10, cw_c40, cw_c80, cw_c100, cp_144z, cp_140n, cw_mabs, cw_mod8, decide_eq_true_eq, not_false_eq_true, not_true_eq_false, true_and, and_true, false_and, and_false, decide_eq_false_iff_not, Nat.not_lt, Nat.not_le, if_pos, if_neg, t4, h1, t5, h2]
              exact K2 I4 f4 (by unfold ce_c2 cd_held; rw [h1, h2]; rfl)
            | true =>
              have hc2 : ce_c2 D S t b i j = ce_btd D S t b (2 ^ i ||| 2 ^ j) := by unfold ce_c2 cd_held; rw [h1, h2]; rfl
              simp (disch := omega) only [cw_l0, cw_l1, cw_l2, cw_l3, cw_l4, cw_l5, cw_l6, cw_l7, cw_l8, cw_l9, cw_l10, cw_l11, cw_l12, cw_l13, cw_l14, cw_l15, cw_l16, cw_l17, cw_l18, cw_l19, cw_l20, cw_l27, cw_l28, cw_l31, cw_l32, cw_l40, cw_l52, cw_l60, cw_l61, cw_l63, cw_l64, cw_l80, cw_l97, cw_l99, cw_l100, cw_l255, cw_l500, cw_l999, cw_l65536, cd_inN, nI_clamp, nI_add, pk_mul, cw_subc, cw_zz, pk_div, cw_ltN, cw_eqN, cw_tf0, cw_tf1, cw_tfa, cw_bi, cw_bl, cw_bv, if_true, if_false, Bool.false_eq_true, Bool.true_eq_false, ite_self, cw_neg1, cw_m1a, cw_ztl, cw_zeq, cw_zadd, cw_znadd, cw_nzadd, cw_zsub, cw_zmul, cw_znmul, cw_nzmul, cw_ltNZ, cw_eqZN, cw_eqNZ, cw_ltZN, cw_on, cw_os, cw_c0, cw_c1, cw_c2, cw_c3, cw_c4, cw_c5, cw_c8, cw_c10, cw_c40, cw_c80, cw_c100, cp_144z, cp_140n, cw_mabs, cw_mod8, decide_eq_true_eq, not_false_eq_true, not_true_eq_false, true_and, and_true, false_and, and_false, decide_eq_false_iff_not, Nat.not_lt, Nat.not_le, if_pos, if_neg, t4, h1, t5, h2]
              refine cw_ci (cw_mono (cp_230 hK hM4 (k := i) (j := j) (m := 2 ^ i ||| 2 ^ j) hi (by omega) ht hb (fun q => by
                rw [Nat.testBit_or, ce_2tb, ce_2tb]
                by_cases e1 : q = i
                · rw [decide_eq_true e1.symm, decide_eq_true (Or.inl e1)]; rfl
                · rw [decide_eq_false (fun h => e1 h.symm), Bool.false_or]
                  exact decide_eq_decide.mpr ⟨fun h => Or.inr h.symm, fun h => (h.resolve_left e1).symm⟩)) ?_)
              intro v I5 J5 ⟨hv, hJ, f5⟩
              subst hv hJ
              refine ⟨_, rfl, ?_⟩
              have f45 : ∀ a k, ¬ (117 ≤ a ∧ a ≤ 119) → ¬ (a = 100 ∧ k = 39) → I5 a k = I a k := fun a k h1 h2 => (f5 a k h1 h2).trans (f4 a k h1 h2)
              refine cw_m (fun _ => cd_s231_69) ?_
              cases hg : ce_btd D S t b (2 ^ i ||| 2 ^ j) with
              | false =>
                simp (disch := omega) only [cw_l0, cw_l1, cw_l2, cw_l3, cw_l4, cw_l5, cw_l6, cw_l7, cw_l8, cw_l9, cw_l10, cw_l11, cw_l12, cw_l13, cw_l14, cw_l15, cw_l16, cw_l17, cw_l18, cw_l19, cw_l20, cw_l27, cw_l28, cw_l31, cw_l32, cw_l40, cw_l52, cw_l60, cw_l61, cw_l63, cw_l64, cw_l80, cw_l97, cw_l99, cw_l100, cw_l255, cw_l500, cw_l999, cw_l65536, cd_inN, nI_clamp, nI_add, pk_mul, cw_subc, cw_zz, pk_div, cw_ltN, cw_eqN, cw_tf0, cw_tf1, cw_tfa, cw_bi, cw_bl, cw_bv, if_true, if_false, Bool.false_eq_true, Bool.true_eq_false, ite_self, cw_neg1, cw_m1a, cw_ztl, cw_zeq, cw_zadd, cw_znadd, cw_nzadd, cw_zsub, cw_zmul, cw_znmul, cw_nzmul, cw_ltNZ, cw_eqZN, cw_eqNZ, cw_ltZN, cw_on, cw_os, cw_c0, cw_c1, cw_c2, cw_c3, cw_c4, cw_c5, cw_c8, cw_c10, cw_c40, cw_c80, cw_c100, cp_144z, cp_140n, cw_mabs, cw_mod8, decide_eq_true_eq, not_false_eq_true, not_true_eq_false, true_and, and_true, false_and, and_false, decide_eq_false_iff_not, Nat.not_lt, Nat.not_le, if_pos, if_neg]
                exact K2 I5 f45 (hc2.trans hg)
              | true =>
                rw [hc2, hg, if_pos rfl] at q3
                rw [q3] at q2
                dsimp only at q2
                have p1 := ce_pw (n := i) (by omega)
                have p2 := ce_pw (n := j) (by omega)
                simp (disch := omega) only [cw_l0, cw_l1, cw_l2, cw_l3, cw_l4, cw_l5, cw_l6, cw_l7, cw_l8, cw_l9, cw_l10, cw_l11, cw_l12, cw_l13, cw_l14, cw_l15, cw_l16, cw_l17, cw_l18, cw_l19, cw_l20, cw_l27, cw_l28, cw_l31, cw_l32, cw_l40, cw_l52, cw_l60, cw_l61, cw_l63, cw_l64, cw_l80, cw_l97, cw_l99, cw_l100, cw_l255, cw_l500, cw_l999, cw_l65536, cd_inN, nI_clamp, nI_add, pk_mul, cw_subc, cw_zz, pk_div, cw_ltN, cw_eqN, cw_tf0, cw_tf1, cw_tfa, cw_bi, cw_bl, cw_bv, if_true, if_false, Bool.false_eq_true, Bool.true_eq_false, ite_self, cw_neg1, cw_m1a, cw_ztl, cw_zeq, cw_zadd, cw_znadd, cw_nzadd, cw_zsub, cw_zmul, cw_znmul, cw_nzmul, cw_ltNZ, cw_eqZN, cw_eqNZ, cw_ltZN, cw_on, cw_os, cw_c0, cw_c1, cw_c2, cw_c3, cw_c4, cw_c5, cw_c8, cw_c10, cw_c40, cw_c80, cw_c100, cp_144z, cp_140n, cw_mabs, cw_mod8, decide_eq_true_eq, not_false_eq_true, not_true_eq_false, true_and, and_true, false_and, and_false, decide_eq_false_iff_not, Nat.not_lt, Nat.not_le, if_pos, if_neg, cw_sh1, cw_or]
                exact cw_ret (out I5 (some (2 ^ i ||| 2 ^ j)) f45 (by rw [hA, q2]))
    · intro i I2 hi ⟨f2, q1⟩ K
      rw [ce_fst_st hi] at q1
      have K : ∀ I5, (∀ a k, ¬ (117 ≤ a ∧ a ≤ 119) → ¬ (a = 100 ∧ k = 39) → I5 a k = I a k) → ce_c1 D S t b i = false → cw L w (cd_go 231 20 [.ref 100, .int (nI t), .int (nI b), .int (nI (i + 1)), .null] [] (cd_mm L w I5 J1)) _ := fun I5 f5 hc => K I5 ⟨f5, by rw [q1, hc]; rfl⟩
      have hM2 := hM.sc hK.1 f2
      have t4 := (hM2.2.1.2 i hi).2.2
      refine cw_m (fun _ => cd_s231_20) ?_
      cases h1 : (S 0 2).testBit i with
      | false =>
        simp (disch := omega) only [cw_l0, cw_l1, cw_l2, cw_l3, cw_l4, cw_l5, cw_l6, cw_l7, cw_l8, cw_l9, cw_l10, cw_l11, cw_l12, cw_l13, cw_l14, cw_l15, cw_l16, cw_l17, cw_l18, cw_l19, cw_l20, cw_l27, cw_l28, cw_l31, cw_l32, cw_l40, cw_l52, cw_l60, cw_l61, cw_l63, cw_l64, cw_l80, cw_l97, cw_l99, cw_l100, cw_l255, cw_l500, cw_l999, cw_l65536, cd_inN, nI_clamp, nI_add, pk_mul, cw_subc, cw_zz, pk_div, cw_ltN, cw_eqN, cw_tf0, cw_tf1, cw_tfa, cw_bi, cw_bl, cw_bv, if_true, if_false, Bool.false_eq_true, Bool.true_eq_false, ite_self, cw_neg1, cw_m1a, cw_ztl, cw_zeq, cw_zadd, cw_znadd, cw_nzadd, cw_zsub, cw_zmul, cw_znmul, cw_nzmul, cw_ltNZ, cw_eqZN, cw_eqNZ, cw_ltZN, cw_on, cw_os, cw_c0, cw_c1, cw_c2, cw_c3, cw_c4, cw_c5, cw_c8, cw_c10, cw_c40, cw_c80, cw_c100, cp_144z, cp_140n, cw_mabs, cw_mod8, decide_eq_true_eq, not_false_eq_true, not_true_eq_false, true_and, and_true, false_and, and_false, decide_eq_false_iff_not, Nat.not_lt, Nat.not_le, if_pos, if_neg, hM2.1.1.2.2.1, t4, h1]
        exact K I2 f2 (by unfold ce_c1 cd_held; rw [h1]; rfl)
      | true =>
        have hc1 : ce_c1 D S t b i = ce_btd D S t b (2 ^ i) := by unfold ce_c1 cd_held; rw [h1]; rfl
        simp (disch := omega) only [cw_l0, cw_l1, cw_l2, cw_l3, cw_l4, cw_l5, cw_l6, cw_l7, cw_l8, cw_l9, cw_l10, cw_l11, cw_l12, cw_l13, cw_l14, cw_l15, cw_l16, cw_l17, cw_l18, cw_l19, cw_l20, cw_l27, cw_l28, cw_l31, cw_l32, cw_l40, cw_l52, cw_l60, cw_l61, cw_l63, cw_l64, cw_l80, cw_l97, cw_l99, cw_l100, cw_l255, cw_l500, cw_l999, cw_l65536, cd_inN, nI_clamp, nI_add, pk_mul, cw_subc, cw_zz, pk_div, cw_ltN, cw_eqN, cw_tf0, cw_tf1, cw_tfa, cw_bi, cw_bl, cw_bv, if_true, if_false, Bool.false_eq_true, Bool.true_eq_false, ite_self, cw_neg1, cw_m1a, cw_ztl, cw_zeq, cw_zadd, cw_znadd, cw_nzadd, cw_zsub, cw_zmul, cw_znmul, cw_nzmul, cw_ltNZ, cw_eqZN, cw_eqNZ, cw_ltZN, cw_on, cw_os, cw_c0, cw_c1, cw_c2, cw_c3, cw_c4, cw_c5, cw_c8, cw_c10, cw_c40, cw_c80, cw_c100, cp_144z, cp_140n, cw_mabs, cw_mod8, decide_eq_true_eq, not_false_eq_true, not_true_eq_false, true_and, and_true, false_and, and_false, decide_eq_false_iff_not, Nat.not_lt, Nat.not_le, if_pos, if_neg, hM2.1.1.2.2.1, t4, h1]
        refine cw_ci (cw_mono (cp_230 hK hM2 (k := i) (j := i) (m := 2 ^ i) hi hi ht hb (fun q => by
          rw [ce_2tb]
          exact decide_eq_decide.mpr ⟨fun h => Or.inl h.symm, fun h => (h.elim id id).symm⟩)) ?_)
        intro v I5 J5 ⟨hv, hJ, f5⟩
        subst hv hJ
        refine ⟨_, rfl, ?_⟩
        have f45 : ∀ a k, ¬ (117 ≤ a ∧ a ≤ 119) → ¬ (a = 100 ∧ k = 39) → I5 a k = I a k := fun a k h1 h2 => (f5 a k h1 h2).trans (f2 a k h1 h2)
        refine cw_m (fun _ => cd_s231_35) ?_
        cases hg : ce_btd D S t b (2 ^ i) with
        | false =>
          simp (disch := omega) only [cw_l0, cw_l1, cw_l2, cw_l3, cw_l4, cw_l5, cw_l6, cw_l7, cw_l8, cw_l9, cw_l10, cw_l11, cw_l12, cw_l13, cw_l14, cw_l15, cw_l16, cw_l17, cw_l18, cw_l19, cw_l20, cw_l27, cw_l28, cw_l31, cw_l32, cw_l40, cw_l52, cw_l60, cw_l61, cw_l63, cw_l64, cw_l80, cw_l97, cw_l99, cw_l100, cw_l255, cw_l500, cw_l999, cw_l65536, cd_inN, nI_clamp, nI_add, pk_mul, cw_subc, cw_zz, pk_div, cw_ltN, cw_eqN, cw_tf0, cw_tf1, cw_tfa, cw_bi, cw_bl, cw_bv, if_true, if_false, Bool.false_eq_true, Bool.true_eq_false, ite_self, cw_neg1, cw_m1a, cw_ztl, cw_zeq, cw_zadd, cw_znadd, cw_nzadd, cw_zsub, cw_zmul, cw_znmul, cw_nzmul, cw_ltNZ, cw_eqZN, cw_eqNZ, cw_ltZN, cw_on, cw_os, cw_c0, cw_c1, cw_c2, cw_c3, cw_c4, cw_c5, cw_c8, cw_c10, cw_c40, cw_c80, cw_c100, cp_144z, cp_140n, cw_mabs, cw_mod8, decide_eq_true_eq, not_false_eq_true, not_true_eq_false, true_and, and_true, false_and, and_false, decide_eq_false_iff_not, Nat.not_lt, Nat.not_le, if_pos, if_neg]
          exact K I5 f45 (hc1.trans hg)
        | true =>
          rw [hc1, hg, if_pos rfl] at q1
          rw [q1] at hA
          simp (disch := omega) only [cw_l0, cw_l1, cw_l2, cw_l3, cw_l4, cw_l5, cw_l6, cw_l7, cw_l8, cw_l9, cw_l10, cw_l11, cw_l12, cw_l13, cw_l14, cw_l15, cw_l16, cw_l17, cw_l18, cw_l19, cw_l20, cw_l27, cw_l28, cw_l31, cw_l32, cw_l40, cw_l52, cw_l60, cw_l61, cw_l63, cw_l64, cw_l80, cw_l97, cw_l99, cw_l100, cw_l255, cw_l500, cw_l999, cw_l65536, cd_inN, nI_clamp, nI_add, pk_mul, cw_subc, cw_zz, pk_div, cw_ltN, cw_eqN, cw_tf0, cw_tf1, cw_tfa, cw_bi, cw_bl, cw_bv, if_true, if_false, Bool.false_eq_true, Bool.true_eq_false, ite_self, cw_neg1, cw_m1a, cw_ztl, cw_zeq, cw_zadd, cw_znadd, cw_nzadd, cw_zsub, cw_zmul, cw_znmul, cw_nzmul, cw_ltNZ, cw_eqZN, cw_eqNZ, cw_ltZN, cw_on, cw_os, cw_c0, cw_c1, cw_c2, cw_c3, cw_c4, cw_c5, cw_c8, cw_c10, cw_c40, cw_c80, cw_c100, cp_144z, cp_140n, cw_mabs, cw_mod8, decide_eq_true_eq, not_false_eq_true, not_true_eq_false, true_and, and_true, false_and, and_false, decide_eq_false_iff_not, Nat.not_lt, Nat.not_le, if_pos, if_neg, cw_sh1]
          exact cw_ret (out I5 (some (2 ^ i)) f45 hA.symm)
end CEU
