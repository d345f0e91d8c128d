/-! ===== the reference: towers ===== -/
def ce_pl (B : Nat → Nat → Bool) (n : Nat) : Nat → Nat → Bool
  | 0, m => decide (m = 0)
  | f + 1, m => decide (m = 0) || ce_any (fun k => m.testBit k && (B k (m ^^^ 2 ^ k) && ce_pl B n f (m ^^^ 2 ^ k))) n
def ce_pg (B : Nat → Nat → Bool) (n m : Nat) : Bool := ce_pl B n (fa_cnt (fun k => m.testBit k) n) m
def ce_po (B : Nat → Nat → Bool) (n m k : Nat) : Bool := m.testBit k && (B k (m ^^^ 2 ^ k) && ce_pg B n (m ^^^ 2 ^ k))
theorem ce_pg_eq {B : Nat → Nat → Bool} {n m : Nat} (hm : m < 2 ^ n) : ce_pg B n m = (decide (m = 0) || ce_any (ce_po B n m) n) := by
  cases hc : fa_cnt (fun k => m.testBit k) n with
  | zero =>
    have h0 := ce_cnt_0 n hm hc
    unfold ce_pg
    rw [hc, h0]
    rfl
  | succ c =>
    have e : ce_pg B n m = (decide (m = 0) || ce_any (fun k => m.testBit k && (B k (m ^^^ 2 ^ k) && ce_pl B n c (m ^^^ 2 ^ k))) n) := by
      unfold ce_pg
      rw [hc]
      rfl
    rw [e]
    congr 1
    refine ce_any_cong n (fun k hk => ?_)
    unfold ce_po
    cases hb : m.testBit k with
    | false => rfl
    | true =>
      have := ce_cnt_flip hb n hk
      unfold ce_pg
      rw [show fa_cnt (fun j => (m ^^^ 2 ^ k).testBit j) n = c by omega]
/-- the sum of row r of a den over a set -/
def ce_su (D : cd_D) (r m : Nat) : Nat → Nat := ce_ns (fun t => if m.testBit t then D r t else 0)
def ce_wt (D : cd_D) (m : Nat) : Nat := ce_su D 2 m (D 0 0)
def ce_ht (D : cd_D) (m : Nat) : Nat := ce_su D 1 m (D 0 0)
def ce_B (D : cd_D) (k m : Nat) : Bool := decide (ce_wt D m ≤ 3 * D 2 k)
def ce_pile (D : cd_D) (m : Nat) : Bool := ce_pg (ce_B D) (D 0 0) m
def ce_cb (D : cd_D) (t m : Nat) : Bool := ce_po (ce_B D) (D 0 0) m t
/-- the greatest height of the piles below s -/
def ce_tm (D : cd_D) : Nat → Nat
  | 0 => 0
  | s + 1 => if ce_pile D s && decide (ce_tm D s < ce_ht D s) then ce_ht D s else ce_tm D s
def ce_tall (D : cd_D) : Nat := ce_tm D (2 ^ D 0 0)
/-- what is still asked for: sets; then the thing below them -/
def ce_tf (D : cd_D) (Z : Nat → Bool) : Option Nat := ce_fst (fun t => ce_any (fun s => Z s && ce_cb D t s) (2 ^ D 0 0)) (D 0 0) 0
def ce_tz (D : cd_D) : Nat → Nat → Bool
  | 0 => fun s => ce_pile D s && decide (ce_ht D s = ce_tall D)
  | i + 1 => match ce_tf D (ce_tz D i) with
    | none => fun _ => false
    | some t => fun s => !s.testBit t && (ce_tz D i (s ||| 2 ^ t) && ce_cb D t (s ||| 2 ^ t))
theorem ce_su_b {D : cd_D} (hD : cd_okD D) {r m : Nat} (hr : r = 1 ∨ r = 2) : ∀ n, n ≤ D 0 0 → ce_su D r m n ≤ 99 * n := by
  intro n
  induction n with
  | zero => intro _; exact Nat.zero_le _
  | succ n ih =>
    intro hn
    have h1 := ih (by omega)
    have h2 := hD.2.1 n (by omega)
    show ce_su D r m n + (if m.testBit n then D r n else 0) ≤ _
    rcases hr with rfl | rfl
    · split <;> omega
    · split <;> omega
theorem ce_an1 {m t : Nat} (h : m.testBit t = true) : ce_an m (2 ^ t) = m ^^^ 2 ^ t := by
  refine Nat.eq_of_testBit_eq (fun k => ?_)
  rw [ce_an_tb, ce_xtb, ce_2tb]
  by_cases hk : t = k
  · subst hk; rw [h, decide_eq_true rfl]; rfl
  · rw [decide_eq_false hk]; cases m.testBit k <;> rfl
theorem ce_pwt {n : Nat} (h : n ≤ 8) : 2 ^ n ≤ 256 := Nat.pow_le_pow_right (by decide) h
theorem ce_wt_b {D : cd_D} (hD : cd_okD D) (m : Nat) : ce_wt D m ≤ 792 ∧ ce_ht D m ≤ 792 := by
  have h8 := hD.1.1
  have h1 := ce_su_b hD (r := 2) (m := m) (Or.inr rfl) (D 0 0) (Nat.le_refl _)
  have h2 := ce_su_b hD (r := 1) (m := m) (Or.inl rfl) (D 0 0) (Nat.le_refl _)
  unfold ce_wt ce_ht
  omega
theorem ce_tm_b {D : cd_D} (hD : cd_okD D) : ∀ s, ce_tm D s ≤ 792 := by
  intro s
  induction s with
  | zero => exact Nat.zero_le _
  | succ s ih =>
    have := (ce_wt_b hD s).2
    unfold ce_tm
    split <;> omega
section CFB
variable {L : Nat} {w : Bool} {I : Nat → Nat → Int32} {J : Nat → Nat → Int64} {D : cd_D} {S : cd_S}
variable {Y : ce_Y} {T : cd_S}
theorem cp_233 (hD : cd_okD D) (hR : cd_refD D I) {m o r : Nat} (hm : m < 2 ^ 31) (ho : o = 102 ∧ r = 1 ∨ o = 103 ∧ r = 2) : cd_c 233 [.ref 100, .int (nI m), .ref o] (cd_mm L w I J) = some (some (.int (nI (ce_su D r m (D 0 0)))), cd_mm L w I J) := by
  refine cw_eq ?_
  have h8 := hD.1.1
  have ho2 : o = 102 ∨ o = 103 := by omega
  refine cw_c (l := [_, _, _, _, _]) rfl rfl ?_
  refine cw_m (fun _ => cd_s233_0 (by first | assumption | decide)) ?_
  refine cw_up (fun i (_ : Unit) => cd_go 233 4 [.ref 100, .int (nI m), .ref o, .int (nI (ce_su D r m i)), .int (nI i)] [] (cd_mm L w I J)) (fun _ _ => True) (D 0 0) ?_ ?_ 0 () (by omega) trivial
  · intro _ _
    refine cw_m (fun _ => cd_s233_4 (by first | assumption | decide)) ?_
    simp (disch := omega) only [cw_l0, cw_l1, cw_l2, cw_l3, cw_l4, cw_l5, cw_l6, cw_l7, cw_l8, cw_l9, cw_l10, cw_l11, cw_l12, cw_l13, cw_l14, cw_l15, cw_l16, cw_l17, cw_l18, cw_l19, cw_l20, cw_l27, cw_l28, cw_l31, cw_l32, cw_l40, cw_l52, cw_l60, cw_l61, cw_l63, cw_l64, cw_l80, cw_l97, cw_l99, cw_l100, cw_l255, cw_l500, cw_l999, cw_l65536, cd_inN, nI_clamp, nI_add, pk_mul, cw_subc, cw_zz, pk_div, cw_ltN, cw_eqN, cw_tf0, cw_tf1, cw_tfa, cw_bi, cw_bl, cw_bv, if_true, if_false, Bool.false_eq_true, Bool.true_eq_false, ite_self, cw_neg1, cw_m1a, cw_ztl, cw_zeq, cw_zadd, cw_znadd, cw_nzadd, cw_zsub, cw_zmul, cw_znmul, cw_nzmul, cw_ltNZ, cw_eqZN, cw_eqNZ, cw_ltZN, cw_on, cw_os, cw_c0, cw_c1, cw_c2, cw_c3, cw_c4, cw_c5, cw_c8, cw_c10, cw_c40, cw_c80, cw_c100, cp_144z, cp_140n, cw_mabs, cw_mod8, decide_eq_true_eq, not_false_eq_true, not_true_eq_false, true_and, and_true, false_and, and_false, decide_eq_false_iff_not, Nat.not_lt, Nat.not_le, if_pos, if_neg, hR.1.1]
    exact cw_ret ⟨rfl, rfl, rfl⟩
  · intro i _ hi _ K
    have K := K () trivial
    rw [show ce_su D r m (i + 1) = ce_su D r m i + (if m.testBit i then D r i else 0) from rfl] at K
    have c0 := cp_139n (L := L) (w := w) (I := I) (J := J) (h := m) (k := i) hm (by omega)
    have hv : I o i = nI (D r i) := by
      rcases ho with ⟨rfl, rfl⟩ | ⟨rfl, rfl⟩
      · exact (hR.2.1 i hi).1
      · exact (hR.2.1 i hi).2.1
    refine cw_m (fun _ => cd_s233_4 (by first | assumption | decide)) ?_
    simp (disch := omega) only [cw_l0, cw_l1, cw_l2, cw_l3, cw_l4, cw_l5, cw_l6, cw_l7, cw_l8, cw_l9, cw_l10, cw_l11, cw_l12, cw_l13, cw_l14, cw_l15, cw_l16, cw_l17, cw_l18, cw_l19, cw_l20, cw_l27, cw_l28, cw_l31, cw_l32, cw_l40, cw_l52, cw_l60, cw_l61, cw_l63, cw_l64, cw_l80, cw_l97, cw_l99, cw_l100, cw_l255, cw_l500, cw_l999, cw_l65536, cd_inN, nI_clamp, nI_add, pk_mul, cw_subc, cw_zz, pk_div, cw_ltN, cw_eqN, cw_tf0, cw_tf1, cw_tfa, cw_bi, cw_bl, cw_bv, if_true, if_false, Bool.false_eq_true, Bool.true_eq_false, ite_self, cw_neg1, cw_m1a, cw_ztl, cw_zeq, cw_zadd, cw_znadd, cw_nzadd, cw_zsub, cw_zmul, cw_znmul, cw_nzmul, cw_ltNZ, cw_eqZN, cw_eqNZ, cw_ltZN, cw_on, cw_os, cw_c0, cw_c1, cw_c2, cw_c3, cw_c4, cw_c5, cw_c8, cw_c10, cw_c40, cw_c80, cw_c100, cp_144z, cp_140n, cw_mabs, cw_mod8, decide_eq_true_eq, not_false_eq_true, not_true_eq_false, true_and, and_true, false_and, and_false, decide_eq_false_iff_not, Nat.not_lt, Nat.not_le, if_pos, if_neg, hR.1.1, c0]
    refine cw_m (fun _ => cd_s233_12 (by first | assumption | decide)) ?_
    cases hq : m.testBit i with
    | false =>
      rw [hq] at K
      simp (disch := omega) only [cw_l0, cw_l1, cw_l2, cw_l3, cw_l4, cw_l5, cw_l6, cw_l7, cw_l8, cw_l9, cw_l10, cw_l11, cw_l12, cw_l13, cw_l14, cw_l15, cw_l16, cw_l17, cw_l18, cw_l19, cw_l20, cw_l27, cw_l28, cw_l31, cw_l32, cw_l40, cw_l52, cw_l60, cw_l61, cw_l63, cw_l64, cw_l80, cw_l97, cw_l99, cw_l100, cw_l255, cw_l500, cw_l999, cw_l65536, cd_inN, nI_clamp, nI_add, pk_mul, cw_subc, cw_zz, pk_div, cw_ltN, cw_eqN, cw_tf0, cw_tf1, cw_tfa, cw_bi, cw_bl, cw_bv, if_true, if_false, Bool.false_eq_true, Bool.true_eq_false, ite_self, cw_neg1, cw_m1a, cw_ztl, cw_zeq, cw_zadd, cw_znadd, cw_nzadd, cw_zsub, cw_zmul, cw_znmul, cw_nzmul, cw_ltNZ, cw_eqZN, cw_eqNZ, cw_ltZN, cw_on, cw_os, cw_c0, cw_c1, cw_c2, cw_c3, cw_c4, cw_c5, cw_c8, cw_c10, cw_c40, cw_c80, cw_c100, cp_144z, cp_140n, cw_mabs, cw_mod8, decide_eq_true_eq, not_false_eq_true, not_true_eq_false, true_and, and_true, false_and, and_false, decide_eq_false_iff_not, Nat.not_lt, Nat.not_le]
      exact K
    | true =>
      rw [hq] at K
      simp (disch := omega) only [cw_l0, cw_l1, cw_l2, cw_l3, cw_l4, cw_l5, cw_l6, cw_l7, cw_l8, cw_l9, cw_l10, cw_l11, cw_l12, cw_l13, cw_l14, cw_l15, cw_l16, cw_l17, cw_l18, cw_l19, cw_l20, cw_l27, cw_l28, cw_l31, cw_l32, cw_l40, cw_l52, cw_l60, cw_l61, cw_l63, cw_l64, cw_l80, cw_l97, cw_l99, cw_l100, cw_l255, cw_l500, cw_l999, cw_l65536, cd_inN, nI_clamp, nI_add, pk_mul, cw_subc, cw_zz, pk_div, cw_ltN, cw_eqN, cw_tf0, cw_tf1, cw_tfa, cw_bi, cw_bl, cw_bv, if_true, if_false, Bool.false_eq_true, Bool.true_eq_false, ite_self, cw_neg1, cw_m1a, cw_ztl, cw_zeq, cw_zadd, cw_znadd, cw_nzadd, cw_zsub, cw_zmul, cw_znmul, cw_nzmul, cw_ltNZ, cw_eqZN, cw_eqNZ, cw_ltZN, cw_on, cw_os, cw_c0, cw_c1, cw_c2, cw_c3, cw_c4, cw_c5, cw_c8, cw_c10, cw_c40, cw_c80, cw_c100, cp_144z, cp_140n, cw_mabs, cw_mod8, decide_eq_true_eq, not_false_eq_true, not_true_eq_false, true_and, and_true, false_and, and_false, decide_eq_false_iff_not, Nat.not_lt, Nat.not_le, hv]
      exact K
/-- piles stand in their cells, for the sets that p takes -/
def ce_pls (D : cd_D) (p : Nat → Prop) (I : Nat → Nat → Int32) : Prop := ∀ s, s < 2 ^ D 0 0 → p s → I 129 s = cd_tf (ce_pile D s)
theorem cp_234 (hD : cd_okD D) (hR : cd_refD D I) {t m : Nat} (ht : t < D 0 0) (hm : m < 2 ^ D 0 0) (hp : ce_pls D (fun s => s < m) I) : cd_c 234 [.ref 100, .int (nI t), .int (nI m)] (cd_mm L w I J) = some (some (.int (cd_tf (ce_cb D t m))), cd_mm L w I J) := by
  refine cw_eq ?_
  have h8 := hD.1.1
  have h2p := ce_pwt h8
  have c0 := cp_139n (L := L) (w := w) (I := I) (J := J) (h := m) (k := t) (by omega) (by omega)
  unfold ce_cb ce_po
  refine cw_c (l := [_, _, _]) rfl rfl ?_
  refine cw_m (fun _ => cd_s234_0) ?_
  simp (disch := omega) only [cw_l0, cw_l1, cw_l2, cw_l3, cw_l4, cw_l5, cw_l6, cw_l7, cw_l8, cw_l9, cw_l10, cw_l11, cw_l12, cw_l13, cw_l14, cw_l15, cw_l16, cw_l17, cw_l18, cw_l19, cw_l20, cw_l27, cw_l28, cw_l31, cw_l32, cw_l40, cw_l52, cw_l60, cw_l61, cw_l63, cw_l64, cw_l80, cw_l97, cw_l99, cw_l100, cw_l255, cw_l500, cw_l999, cw_l65536, cd_inN, nI_clamp, nI_add, pk_mul, cw_subc, cw_zz, pk_div, cw_ltN, cw_eqN, cw_tf0, cw_tf1, cw_tfa, cw_bi, cw_bl, cw_bv, if_true, if_false, Bool.false_eq_true, Bool.true_eq_false, ite_self, cw_neg1, cw_m1a, cw_ztl, cw_zeq, cw_zadd, cw_znadd, cw_nzadd, cw_zsub, cw_zmul, cw_znmul, cw_nzmul, cw_ltNZ, cw_eqZN, cw_eqNZ, cw_ltZN, cw_on, cw_os, cw_c0, cw_c1, cw_c2, cw_c3, cw_c4, cw_c5, cw_c8, cw_c10, cw_c40, cw_c80, cw_c100, cp_144z, cp_140n, cw_mabs, cw_mod8, decide_eq_true_eq, not_false_eq_true, not_true_eq_false, true_and, and_true, false_and, and_false, decide_eq_false_iff_not, Nat.not_lt, Nat.not_le, c0]
  refine cw_m (fun _ => cd_s234_3) ?_
  cases hq : m.testBit t with
  | false =>
    simp (disch := omega) only [cw_l0, cw_l1, cw_l2, cw_l3, cw_l4, cw_l5, cw_l6, cw_l7, cw_l8, cw_l9, cw_l10, cw_l11, cw_l12, cw_l13, cw_l14, cw_l15, cw_l16, cw_l17, cw_l18, cw_l19, cw_l20, cw_l27, cw_l28, cw_l31, cw_l32, cw_l40, cw_l52, cw_l60, cw_l61, cw_l63, cw_l64, cw_l80, cw_l97, cw_l99, cw_l100, cw_l255, cw_l500, cw_l999, cw_l65536, cd_inN, nI_clamp, nI_add, pk_mul, cw_subc, cw_zz, pk_div, cw_ltN, cw_eqN, cw_tf0, cw_tf1, cw_tfa, cw_bi, cw_bl, cw_bv, if_true, if_false, Bool.false_eq_true, Bool.true_eq_false, ite_self, cw_neg1, cw_m1a, cw_ztl, cw_zeq, cw_zadd, cw_znadd, cw_nzadd, cw_zsub, cw_zmul, cw_znmul, cw_nzmul, cw_ltNZ, cw_eqZN, cw_eqNZ, cw_ltZN, cw_on, cw_os, cw_c0, cw_c1, cw_c2, cw_c3, cw_c4, cw_c5, cw_c8, cw_c10, cw_c40, cw_c80, cw_c100, cp_144z, cp_140n, cw_mabs, cw_mod8, decide_eq_true_eq, not_false_eq_true, not_true_eq_false, true_and, and_true, false_and, and_false, decide_eq_false_iff_not, Nat.not_lt, Nat.not_le]
    exact cw_ret ⟨rfl, rfl, rfl⟩
  | true =>
    have hx := ce_xor_lt hq
    have c1 := cp_233 (L := L) (w := w) (J := J) hD hR (m := m ^^^ 2 ^ t) (o := 103) (r := 2) (by omega) (Or.inr ⟨rfl, rfl⟩)
    rw [show ce_su D 2 (m ^^^ 2 ^ t) (D 0 0) = ce_wt D (m ^^^ 2 ^ t) from rfl] at c1
    have hw := (ce_wt_b hD (m ^^^ 2 ^ t)).1
    have hwt := (hD.2.1 t ht).2.2.2.1
    have g1 := (hR.2.1 t ht).2.1
    have g2 := hp (m ^^^ 2 ^ t) (by omega) hx
    unfold ce_pile at g2
    simp (disch := omega) only [cw_l0, cw_l1, cw_l2, cw_l3, cw_l4, cw_l5, cw_l6, cw_l7, cw_l8, cw_l9, cw_l10, cw_l11, cw_l12, cw_l13, cw_l14, cw_l15, cw_l16, cw_l17, cw_l18, cw_l19, cw_l20, cw_l27, cw_l28, cw_l31, cw_l32, cw_l40, cw_l52, cw_l60, cw_l61, cw_l63, cw_l64, cw_l80, cw_l97, cw_l99, cw_l100, cw_l255, cw_l500, cw_l999, cw_l65536, cd_inN, nI_clamp, nI_add, pk_mul, cw_subc, cw_zz, pk_div, cw_ltN, cw_eqN, cw_tf0, cw_tf1, cw_tfa, cw_bi, cw_bl, cw_bv, if_true, if_false, Bool.false_eq_true, Bool.true_eq_false, ite_self, cw_neg1, cw_m1a, cw_ztl, cw_zeq, cw_zadd, cw_znadd, cw_nzadd, cw_zsub, cw_zmul, cw_znmul, cw_nzmul, cw_ltNZ, cw_eqZN, cw_eqNZ, cw_ltZN, cw_on, cw_os, cw_c0, cw_c1, cw_c2, cw_c3, cw_c4, cw_c5, cw_c8, cw_c10, cw_c40, cw_c80, cw_c100, cp_144z, cp_140n, cw_mabs, cw_mod8, decide_eq_true_eq, not_false_eq_true, not_true_eq_false, true_and, and_true, false_and, and_false, decide_eq_false_iff_not, Nat.not_lt, Nat.not_le, if_pos, if_neg, cw_sh1, cw_andn, ce_an1 hq, c1]
    refine cw_m (fun _ => cd_s234_15) ?_
    unfold ce_B
    by_cases hl : ce_wt D (m ^^^ 2 ^ t) ≤ 3 * D 2 t
    · rw [decide_eq_true hl, Bool.true_and]
      unfold ce_B at g2
      cases hpp : ce_pg (fun k m => decide (ce_wt D m ≤ 3 * D 2 k)) (D 0 0) (m ^^^ 2 ^ t) with
      | false =>
        rw [hpp] at g2
        simp (disch := omega) only [cw_l0, cw_l1, cw_l2, cw_l3, cw_l4, cw_l5, cw_l6, cw_l7, cw_l8, cw_l9, cw_l10, cw_l11, cw_l12, cw_l13, cw_l14, cw_l15, cw_l16, cw_l17, cw_l18, cw_l19, cw_l20, cw_l27, cw_l28, cw_l31, cw_l32, cw_l40, cw_l52, cw_l60, cw_l61, cw_l63, cw_l64, cw_l80, cw_l97, cw_l99, cw_l100, cw_l255, cw_l500, cw_l999, cw_l65536, cd_inN, nI_clamp, nI_add, pk_mul, cw_subc, cw_zz, pk_div, cw_ltN, cw_eqN, cw_tf0, cw_tf1, cw_tfa, cw_bi, cw_bl, cw_bv, if_true, if_false, Bool.false_eq_true, Bool.true_eq_false, ite_self, cw_neg1, cw_m1a, cw_ztl, cw_zeq, cw_zadd, cw_znadd, cw_nzadd, cw_zsub, cw_zmul, cw_znmul, cw_nzmul, cw_ltNZ, cw_eqZN, cw_eqNZ, cw_ltZN, cw_on, cw_os, cw_c0, cw_c1, cw_c2, cw_c3, cw_c4, cw_c5, cw_c8, cw_c10, cw_c40, cw_c80, cw_c100, cp_144z, cp_140n, cw_mabs, cw_mod8, decide_eq_true_eq, not_false_eq_true, not_true_eq_false, true_and, and_true, false_and, and_false, decide_eq_false_iff_not, Nat.not_lt, Nat.not_le, if_pos, if_neg, cw_sh1, cw_andn, ce_an1 hq, g1, g2]
        exact cw_ret ⟨rfl, rfl, rfl⟩
      | true =>
        rw [hpp] at g2
        simp (disch := omega) only [cw_l0, cw_l1, cw_l2, cw_l3, cw_l4, cw_l5, cw_l6, cw_l7, cw_l8, cw_l9, cw_l10, cw_l11, cw_l12, cw_l13, cw_l14, cw_l15, cw_l16, cw_l17, cw_l18, cw_l19, cw_l20, cw_l27, cw_l28, cw_l31, cw_l32, cw_l40, cw_l52, cw_l60, cw_l61, cw_l63, cw_l64, cw_l80, cw_l97, cw_l99, cw_l100, cw_l255, cw_l500, cw_l999, cw_l65536, cd_inN, nI_clamp, nI_add, pk_mul, cw_subc, cw_zz, pk_div, cw_ltN, cw_eqN, cw_tf0, cw_tf1, cw_tfa, cw_bi, cw_bl, cw_bv, if_true, if_false, Bool.false_eq_true, Bool.true_eq_false, ite_self, cw_neg1, cw_m1a, cw_ztl, cw_zeq, cw_zadd, cw_znadd, cw_nzadd, cw_zsub, cw_zmul, cw_znmul, cw_nzmul, cw_ltNZ, cw_eqZN, cw_eqNZ, cw_ltZN, cw_on, cw_os, cw_c0, cw_c1, cw_c2, cw_c3, cw_c4, cw_c5, cw_c8, cw_c10, cw_c40, cw_c80, cw_c100, cp_144z, cp_140n, cw_mabs, cw_mod8, decide_eq_true_eq, not_false_eq_true, not_true_eq_false, true_and, and_true, false_and, and_false, decide_eq_false_iff_not, Nat.not_lt, Nat.not_le, if_pos, if_neg, cw_sh1, cw_andn, ce_an1 hq, g1, g2]
        exact cw_ret ⟨rfl, rfl, rfl⟩
    · rw [decide_eq_false hl]
      simp (disch := omega) only [cw_l0, cw_l1, cw_l2, cw_l3, cw_l4, cw_l5, cw_l6, cw_l7, cw_l8, cw_l9, cw_l10, cw_l11, cw_l12, cw_l13, cw_l14, cw_l15, cw_l16, cw_l17, cw_l18, cw_l19, cw_l20, cw_l27, cw_l28, cw_l31, cw_l32, cw_l40, cw_l52, cw_l60, cw_l61, cw_l63, cw_l64, cw_l80, cw_l97, cw_l99, cw_l100, cw_l255, cw_l500, cw_l999, cw_l65536, cd_inN, nI_clamp, nI_add, pk_mul, cw_subc, cw_zz, pk_div, cw_ltN, cw_eqN, cw_tf0, cw_tf1, cw_tfa, cw_bi, cw_bl, cw_bv, if_true, if_false, Bool.false_eq_true, Bool.true_eq_false, ite_self, cw_neg1, cw_m1a, cw_ztl, cw_zeq, cw_zadd, cw_znadd, cw_nzadd, cw_zsub, cw_zmul, cw_znmul, cw_nzmul, cw_ltNZ, cw_eqZN, cw_eqNZ, cw_ltZN, cw_on, cw_os, cw_c0, cw_c1, cw_c2, cw_c3, cw_c4, cw_c5, cw_c8, cw_c10, cw_c40, cw_c80, cw_c100, cp_144z, cp_140n, cw_mabs, cw_mod8, decide_eq_true_eq, not_false_eq_true, not_true_eq_false, true_and, and_true, false_and, and_false, decide_eq_false_iff_not, Nat.not_lt, Nat.not_le, if_pos, if_neg, cw_sh1, cw_andn, ce_an1 hq, g1]
      exact cw_ret ⟨rfl, rfl, rfl⟩
theorem cp_235 (hD : cd_okD D) (hR : cd_refD D I) : cw L w (cd_c 235 [.ref 100] (cd_mm L w I J)) (fun v I1 J1 => v = some (.int (nI (ce_tall D))) ∧ J1 = J ∧ (∀ a k, a ≠ 129 → I1 a k = I a k) ∧ ce_pls D (fun _ => True) I1) := by
  have h8 := hD.1.1
  have h2p := ce_pwt h8
  have h1p : 0 < 2 ^ D 0 0 := Nat.pow_pos (by decide)
  refine cw_c (l := [_, _, _, _, _]) rfl rfl ?_
  refine cw_m (fun _ => cd_s235_0) ?_
  refine cw_up (fun s (x : (Nat → Nat → Int32) × Value × Value) => cd_go 235 4 [.ref 100, .int (nI (ce_tm D s)), .int (nI s), x.2.1, x.2.2] [] (cd_mm L w x.1 J)) (fun s x => (∀ a k, a ≠ 129 → x.1 a k = I a k) ∧ ce_pls D (fun u => u < s) x.1) (2 ^ D 0 0) ?_ ?_ 0 (I, .null, .null) (by omega) ⟨fun _ _ _ => rfl, fun u _ hu => by omega⟩
  · intro ⟨I1, u3, u4⟩ ⟨f1, p1⟩
    replace f1 : ∀ a k, a ≠ 129 → I1 a k = I a k := f1
    have hR1 : cd_refD D I1 := hR.of (fun a k h1 h2 => f1 a k (by omega))
    refine cw_m (fun _ => cd_s235_4) ?_
    simp (disch := omega) only [cw_l0, cw_l1, cw_l2, cw_l3, cw_l4, cw_l5, cw_l6, cw_l7, cw_l8, cw_l9, cw_l10, cw_l11, cw_l12, cw_l13, cw_l14, cw_l15, cw_l16, cw_l17, cw_l18, cw_l19, cw_l20, cw_l27, cw_l28, cw_l31, cw_l32, cw_l40, cw_l52, cw_l60, cw_l61, cw_l63, cw_l64, cw_l80, cw_l97, cw_l99, cw_l100, cw_l255, cw_l500, cw_l999, cw_l65536, cd_inN, nI_clamp, nI_add, pk_mul, cw_subc, cw_zz, pk_div, cw_ltN, cw_eqN, cw_tf0, cw_tf1, cw_tfa, cw_bi, cw_bl, cw_bv, if_true, if_false, Bool.false_eq_true, Bool.true_eq_false, ite_self, cw_neg1, cw_m1a, cw_ztl, cw_zeq, cw_zadd, cw_znadd, cw_nzadd, cw_zsub, cw_zmul, cw_znmul, cw_nzmul, cw_ltNZ, cw_eqZN, cw_eqNZ, cw_ltZN, cw_on, cw_os, cw_c0, cw_c1, cw_c2, cw_c3, cw_c4, cw_c5, cw_c8, cw_c10, cw_c40, cw_c80, cw_c100, cp_144z, cp_140n, cw_mabs, cw_mod8, decide_eq_true_eq, not_false_eq_true, not_true_eq_false, true_and, and_true, false_and, and_false, decide_eq_false_iff_not, Nat.not_lt, Nat.not_le, if_pos, if_neg, hR1.1.1, cw_sh1]
    exact cw_ret ⟨rfl, rfl, f1, fun u hu _ => p1 u hu hu⟩
  · intro s ⟨I1, u3, u4⟩ hs ⟨f1, p1⟩ K
    replace f1 : ∀ a k, a ≠ 129 → I1 a k = I a k := f1
    replace p1 : ce_pls D (fun u => u < s) I1 := p1
    have hpe : ce_pile D s = (decide (s = 0) || ce_any (ce_po (ce_B D) (D 0 0) s) (D 0 0)) := ce_pg_eq hs
    have htm := ce_tm_b hD s
    have hht := (ce_wt_b hD s).2
    -- behind the inner loop
    have fin : ∀ (I2 : Nat → Nat → Int32) (u4 : Int32), (∀ a k, ¬ (a = 129 ∧ k = s) → I2 a k = I1 a k) → cw L w (if cd_tf (ce_pile D s) = nI 0 then cd_go 235 4 [.ref 100, .int (nI (ce_tm D s)), .int (nI (s + 1)), .int (cd_tf (ce_pile D s)), .int u4] [] (cd_mm L w (cd_up I2 129 s (cd_tf (ce_pile D s))) J) else (cd_ci (cd_c 233 [.ref 100, .int (nI s), .ref 102] (cd_mm L w (cd_up I2 129 s (cd_tf (ce_pile D s))) J))).bind fun q => cd_go 235 48 [.ref 100, .int (nI (ce_tm D s)), .int (nI s), .int (cd_tf (ce_pile D s)), .int u4] [.int q.1] q.2) (fun v I1 J1 => v = some (.int (nI (ce_tall D))) ∧ J1 = J ∧ (∀ a k, a ≠ 129 → I1 a k = I a k) ∧ ce_pls D (fun _ => True) I1) := by
      intro I2 u4 f2
      have f3 : ∀ a k, a ≠ 129 → cd_up I2 129 s (cd_tf (ce_pile D s)) a k = I a k := fun a k h => by rw [cd_up_a h, f2 a k (by omega)]; exact f1 a k h
      have hR3 : cd_refD D (cd_up I2 129 s (cd_tf (ce_pile D s))) := hR.of (fun a k h1 h2 => f3 a k (by omega))
      have K : ∀ m u3 u4, m = ce_tm D (s + 1) → cw L w (cd_go 235 4 [.ref 100, .int (nI m), .int (nI (s + 1)), u3, u4] [] (cd_mm L w (cd_up I2 129 s (cd_tf (ce_pile D s))) J)) _ := fun m u3 u4 hm => by
        rw [hm]
        exact K (_, u3, u4) ⟨f3, fun u hu hus => by
          show cd_up I2 129 s _ 129 u = _
          by_cases hu2 : u = s
          · rw [hu2, cd_up_s]
          · rw [cd_up_k hu2, f2 _ _ (by omega)]; exact p1 u hu (by omega)⟩
      have hm1 : ce_tm D (s + 1) = if ce_pile D s && decide (ce_tm D s < ce_ht D s) then ce_ht D s else ce_tm D s := rfl
      have c1 := cp_233 (L := L) (w := w) (J := J) hD hR3 (m := s) (o := 102) (r := 1) (by omega) (Or.inl ⟨rfl, rfl⟩)
      rw [show ce_su D 1 s (D 0 0) = ce_ht D s from rfl] at c1
      generalize cd_up I2 129 s (cd_tf (ce_pile D s)) = I3 at *
      cases hpl : ce_pile D s with
      | false =>
        rw [hpl] at hm1
        rw [if_pos (show cd_tf false = nI 0 by decide)]
        exact K _ _ _ hm1.symm
      | true =>
        rw [hpl, Bool.true_and] at hm1
        rw [if_neg (show ¬ cd_tf true = nI 0 by decide)]
        simp (disch := omega) only [cw_l0, cw_l1, cw_l2, cw_l3, cw_l4, cw_l5, cw_l6, cw_l7, cw_l8, cw_l9, cw_l10, cw_l11, cw_l12, cw_l13, cw_l14, cw_l15, cw_l16, cw_l17, cw_l18, cw_l19, cw_l20, cw_l27, cw_l28, cw_l31, cw_l32, cw_l40, cw_l52, cw_l60, cw_l61, cw_l63, cw_l64, cw_l80, cw_l97, cw_l99, cw_l100, cw_l255, cw_l500, cw_l999, cw_l65536, cd_inN, nI_clamp, nI_add, pk_mul, cw_subc, cw_zz, pk_div, cw_ltN, cw_eqN, cw_tf0, cw_tf1, cw_tfa, cw_bi, cw_bl, cw_bv, if_true, if_false, Bool.false_eq_true, Bool.true_eq_false, ite_self, cw_neg1, cw_m1a, cw_ztl, cw_zeq, cw_zadd, cw_znadd, cw_nzadd, cw_zsub, cw_zmul, cw_znmul, cw_nzmul, cw_ltNZ, cw_eqZN, cw_eqNZ, cw_ltZN, cw_on, cw_os, cw_c0, cw_c1, cw_c2, cw_c3, cw_c4, cw_c5, cw_c8, cw_c10, cw_c40, cw_c80, cw_c100, cp_144z, cp_140n, cw_mabs, cw_mod8, decide_eq_true_eq, not_false_eq_true, not_true_eq_false, true_and, and_true, false_and, and_false, decide_eq_false_iff_not, Nat.not_lt, Nat.not_le, c1]
        refine cw_m (fun _ => cd_s235_48) ?_
        by_cases hl : ce_tm D s < ce_ht D s
        · rw [decide_eq_true hl, if_pos rfl] at hm1
          simp (disch := omega) only [cw_l0, cw_l1, cw_l2, cw_l3, cw_l4, cw_l5, cw_l6, cw_l7, cw_l8, cw_l9, cw_l10, cw_l11, cw_l12, cw_l13, cw_l14, cw_l15, cw_l16, cw_l17, cw_l18, cw_l19, cw_l20, cw_l27, cw_l28, cw_l31, cw_l32, cw_l40, cw_l52, cw_l60, cw_l61, cw_l63, cw_l64, cw_l80, cw_l97, cw_l99, cw_l100, cw_l255, cw_l500, cw_l999, cw_l65536, cd_inN, nI_clamp, nI_add, pk_mul, cw_subc, cw_zz, pk_div, cw_ltN, cw_eqN, cw_tf0, cw_tf1, cw_tfa, cw_bi, cw_bl, cw_bv, if_true, if_false, Bool.false_eq_true, Bool.true_eq_false, ite_self, cw_neg1, cw_m1a, cw_ztl, cw_zeq, cw_zadd, cw_znadd, cw_nzadd, cw_zsub, cw_zmul, cw_znmul, cw_nzmul, cw_ltNZ, cw_eqZN, cw_eqNZ, cw_ltZN, cw_on, cw_os, cw_c0, cw_c1, cw_c2, cw_c3, cw_c4, cw_c5, cw_c8, cw_c10, cw_c40, cw_c80, cw_c100, cp_144z, cp_140n, cw_mabs, cw_mod8, decide_eq_true_eq, not_false_eq_true, not_true_eq_false, true_and, and_true, false_and, and_false, decide_eq_false_iff_not, Nat.not_lt, Nat.not_le, if_pos, if_neg, c1]
          refine cw_m (fun _ => cd_s235_55) ?_
          simp (disch := omega) only [cw_l0, cw_l1, cw_l2, cw_l3, cw_l4, cw_l5, cw_l6, cw_l7, cw_l8, cw_l9, cw_l10, cw_l11, cw_l12, cw_l13, cw_l14, cw_l15, cw_l16, cw_l17, cw_l18, cw_l19, cw_l20, cw_l27, cw_l28, cw_l31, cw_l32, cw_l40, cw_l52, cw_l60, cw_l61, cw_l63, cw_l64, cw_l80, cw_l97, cw_l99, cw_l100, cw_l255, cw_l500, cw_l999, cw_l65536, cd_inN, nI_clamp, nI_add, pk_mul, cw_subc, cw_zz, pk_div, cw_ltN, cw_eqN, cw_tf0, cw_tf1, cw_tfa, cw_bi, cw_bl, cw_bv, if_true, if_false, Bool.false_eq_true, Bool.true_eq_false, ite_self, cw_neg1, cw_m1a, cw_ztl, cw_zeq, cw_zadd, cw_znadd, cw_nzadd, cw_zsub, cw_zmul, cw_znmul, cw_nzmul, cw_ltNZ, cw_eqZN, cw_eqNZ, cw_ltZN, cw_on, cw_os, cw_c0, cw_c1, cw_c2, cw_c3, cw_c4, cw_c5, cw_c8, cw_c10, cw_c40, cw_c80, cw_c100, cp_144z, cp_140n, cw_mabs, cw_mod8, decide_eq_true_eq, not_false_eq_true, not_true_eq_false, true_and, and_true, false_and, and_false, decide_eq_false_iff_not, Nat.not_lt, Nat.not_le]
          exact K _ _ _ hm1.symm
        · rw [decide_eq_false hl, if_neg (by decide)] at hm1
          simp (disch := omega) only [cw_l0, cw_l1, cw_l2, cw_l3, cw_l4, cw_l5, cw_l6, cw_l7, cw_l8, cw_l9, cw_l10, cw_l11, cw_l12, cw_l13, cw_l14, cw_l15, cw_l16, cw_l17, cw_l18, cw_l19, cw_l20, cw_l27, cw_l28, cw_l31, cw_l32, cw_l40, cw_l52, cw_l60, cw_l61, cw_l63, cw_l64, cw_l80, cw_l97, cw_l99, cw_l100, cw_l255, cw_l500, cw_l999, cw_l65536, cd_inN, nI_clamp, nI_add, pk_mul, cw_subc, cw_zz, pk_div, cw_ltN, cw_eqN, cw_tf0, cw_tf1, cw_tfa, cw_bi, cw_bl, cw_bv, if_true, if_false, Bool.false_eq_true, Bool.true_eq_false, ite_self, cw_neg1, cw_m1a, cw_ztl, cw_zeq, cw_zadd, cw_znadd, cw_nzadd, cw_zsub, cw_zmul, cw_znmul, cw_nzmul, cw_ltNZ, cw_eqZN, cw_eqNZ, cw_ltZN, cw_on, cw_os, cw_c0, cw_c1, cw_c2, cw_c3, cw_c4, cw_c5, cw_c8, cw_c10, cw_c40, cw_c80, cw_c100, cp_144z, cp_140n, cw_mabs, cw_mod8, decide_eq_true_eq, not_false_eq_true, not_true_eq_false, true_and, and_true, false_and, and_false, decide_eq_false_iff_not, Nat.not_lt, Nat.not_le, if_pos, if_neg]
          exact K _ _ _ hm1.symm
    have loop : ∀ (I2 : Nat → Nat → Int32), (∀ a k, ¬ (a = 129 ∧ k = s) → I2 a k = I1 a k) → cw L w (cd_go 235 23 [.ref 100, .int (nI (ce_tm D s)), .int (nI s), .int (cd_tf (decide (s = 0))), .int 0] [] (cd_mm L w I2 J)) (fun v I1 J1 => v = some (.int (nI (ce_tall D))) ∧ J1 = J ∧ (∀ a k, a ≠ 129 → I1 a k = I a k) ∧ ce_pls D (fun _ => True) I1) := by
      intro I2 f2
      have hR2 : cd_refD D I2 := hR.of (fun a k h1 h2 => by rw [f2 a k (by omega)]; exact f1 a k (by omega))
      have p2 : ce_pls D (fun u => u < s) I2 := fun u hu hus => by
        have hus : u < s := hus
        rw [f2 _ _ (by omega)]; exact p1 u hu hus
      refine cw_up (fun t (b : Bool) => cd_go 235 23 [.ref 100, .int (nI (ce_tm D s)), .int (nI s), .int (cd_tf b), .int (nI t)] [] (cd_mm L w I2 J)) (fun t b => b = (decide (s = 0) || ce_any (ce_po (ce_B D) (D 0 0) s) t)) (D 0 0) ?_ ?_ 0 _ (by omega) (by rw [show ce_any (ce_po (ce_B D) (D 0 0) s) 0 = false from rfl, Bool.or_false])
      · intro b hb
        rw [← hpe] at hb
        subst hb
        have fin := fin I2 (nI (D 0 0)) f2
        generalize (fun (v : Option Value) (I1 : Nat → Nat → Int32) (J1 : Nat → Nat → Int64) => v = some (.int (nI (ce_tall D))) ∧ J1 = J ∧ (∀ a k, a ≠ 129 → I1 a k = I a k) ∧ ce_pls D (fun _ => True) I1) = Q at *
        refine cw_m (fun _ => cd_s235_23) ?_
        simp only [cw_tf0] at fin
        simp (disch := omega) only [cw_l0, cw_l1, cw_l2, cw_l3, cw_l4, cw_l5, cw_l6, cw_l7, cw_l8, cw_l9, cw_l10, cw_l11, cw_l12, cw_l13, cw_l14, cw_l15, cw_l16, cw_l17, cw_l18, cw_l19, cw_l20, cw_l27, cw_l28, cw_l31, cw_l32, cw_l40, cw_l52, cw_l60, cw_l61, cw_l63, cw_l64, cw_l80, cw_l97, cw_l99, cw_l100, cw_l255, cw_l500, cw_l999, cw_l65536, cd_inN, nI_clamp, nI_add, pk_mul, cw_subc, cw_zz, pk_div, cw_ltN, cw_eqN, cw_tf0, cw_tf1, cw_tfa, cw_bi, cw_bl, cw_bv, if_true, if_false, Bool.false_eq_true, Bool.true_eq_false, ite_self, cw_neg1, cw_m1a, cw_ztl, cw_zeq, cw_zadd, cw_znadd, cw_nzadd, cw_zsub, cw_zmul, cw_znmul, cw_nzmul, cw_ltNZ, cw_eqZN, cw_eqNZ, cw_ltZN, cw_on, cw_os, cw_c0, cw_c1, cw_c2, cw_c3, cw_c4, cw_c5, cw_c8, cw_c10, cw_c40, cw_c80, cw_c100, cp_144z, cp_140n, cw_mabs, cw_mod8, decide_eq_true_eq, not_false_eq_true, not_true_eq_false, true_and, and_true, false_and, and_false, decide_eq_false_iff_not, Nat.not_lt, Nat.not_le, if_pos, if_neg, hR2.1.1]
        exact fin
      · intro t b ht hb K2
        cases b with
        | true =>
          have hpt : ce_pile D s = true := by
            rw [hpe, Bool.or_eq_true]
            rcases (Bool.or_eq_true _ _).mp hb.symm with h | h
            · exact Or.inl h
            · obtain ⟨j, hj, hp⟩ := ce_any_t.mp h
              exact Or.inr (ce_any_t.mpr ⟨j, by omega, hp⟩)
          have fin := fin I2 (nI t) f2
          rw [hpt, if_neg (show ¬ cd_tf true = nI 0 by decide)] at fin
          refine cw_m (fun _ => cd_s235_23) ?_
          simp (disch := omega) only [cw_l0, cw_l1, cw_l2, cw_l3, cw_l4, cw_l5, cw_l6, cw_l7, cw_l8, cw_l9, cw_l10, cw_l11, cw_l12, cw_l13, cw_l14, cw_l15, cw_l16, cw_l17, cw_l18, cw_l19, cw_l20, cw_l27, cw_l28, cw_l31, cw_l32, cw_l40, cw_l52, cw_l60, cw_l61, cw_l63, cw_l64, cw_l80, cw_l97, cw_l99, cw_l100, cw_l255, cw_l500, cw_l999, cw_l65536, cd_inN, nI_clamp, nI_add, pk_mul, cw_subc, cw_zz, pk_div, cw_ltN, cw_eqN, cw_tf0, cw_tf1, cw_tfa, cw_bi, cw_bl, cw_bv, if_true, if_false, Bool.false_eq_true, Bool.true_eq_false, ite_self, cw_neg1, cw_m1a, cw_ztl, cw_zeq, cw_zadd, cw_znadd, cw_nzadd, cw_zsub, cw_zmul, cw_znmul, cw_nzmul, cw_ltNZ, cw_eqZN, cw_eqNZ, cw_ltZN, cw_on, cw_os, cw_c0, cw_c1, cw_c2, cw_c3, cw_c4, cw_c5, cw_c8, cw_c10, cw_c40, cw_c80, cw_c100, cp_144z, cp_140n, cw_mabs, cw_mod8, decide_eq_true_eq, not_false_eq_true, not_true_eq_false, true_and, and_true, false_and, and_false, decide_eq_false_iff_not, Nat.not_lt, Nat.not_le, if_pos, if_neg, hR2.1.1]
          exact fin
        | false =>
          have c1 := cp_234 (L := L) (w := w) (J := J) hD hR2 ht hs p2
          refine cw_m (fun _ => cd_s235_23) ?_
          simp (disch := omega) only [cw_l0, cw_l1, cw_l2, cw_l3, cw_l4, cw_l5, cw_l6, cw_l7, cw_l8, cw_l9, cw_l10, cw_l11, cw_l12, cw_l13, cw_l14, cw_l15, cw_l16, cw_l17, cw_l18, cw_l19, cw_l20, cw_l27, cw_l28, cw_l31, cw_l32, cw_l40, cw_l52, cw_l60, cw_l61, cw_l63, cw_l64, cw_l80, cw_l97, cw_l99, cw_l100, cw_l255, cw_l500, cw_l999, cw_l65536, cd_inN, nI_clamp, nI_add, pk_mul, cw_subc, cw_zz, pk_div, cw_ltN, cw_eqN, cw_tf0, cw_tf1, cw_tfa, cw_bi, cw_bl, cw_bv, if_true, if_false, Bool.false_eq_true, Bool.true_eq_false, ite_self, cw_neg1, cw_m1a, cw_ztl, cw_zeq, cw_zadd, cw_znadd, cw_nzadd, cw_zsub, cw_zmul, cw_znmul, cw_nzmul, cw_ltNZ, cw_eqZN, cw_eqNZ, cw_ltZN, cw_on, cw_os, cw_c0, cw_c1, cw_c2, cw_c3, cw_c4, cw_c5, cw_c8, cw_c10, cw_c40, cw_c80, cw_c100, cp_144z, cp_140n, cw_mabs, cw_mod8, decide_eq_true_eq, not_false_eq_true, not_true_eq_false, true_and, and_true, false_and, and_false, decide_eq_false_iff_not, Nat.not_lt, Nat.not_le, if_pos, if_neg, hR2.1.1, c1]
          refine cw_m (fun _ => cd_s235_33) ?_
          simp (disch := omega) only [cw_l0, cw_l1, cw_l2, cw_l3, cw_l4, cw_l5, cw_l6, cw_l7, cw_l8, cw_l9, cw_l10, cw_l11, cw_l12, cw_l13, cw_l14, cw_l15, cw_l16, cw_l17, cw_l18, cw_l19, cw_l20, cw_l27, cw_l28, cw_l31, cw_l32, cw_l40, cw_l52, cw_l60, cw_l61, cw_l63, cw_l64, cw_l80, cw_l97, cw_l99, cw_l100, cw_l255, cw_l500, cw_l999, cw_l65536, cd_inN, nI_clamp, nI_add, pk_mul, cw_subc, cw_zz, pk_div, cw_ltN, cw_eqN, cw_tf0, cw_tf1, cw_tfa, cw_bi, cw_bl, cw_bv, if_true, if_false, Bool.false_eq_true, Bool.true_eq_false, ite_self, cw_neg1, cw_m1a, cw_ztl, cw_zeq, cw_zadd, cw_znadd, cw_nzadd, cw_zsub, cw_zmul, cw_znmul, cw_nzmul, cw_ltNZ, cw_eqZN, cw_eqNZ, cw_ltZN, cw_on, cw_os, cw_c0, cw_c1, cw_c2, cw_c3, cw_c4, cw_c5, cw_c8, cw_c10, cw_c40, cw_c80, cw_c100, cp_144z, cp_140n, cw_mabs, cw_mod8, decide_eq_true_eq, not_false_eq_true, not_true_eq_false, true_and, and_true, false_and, and_false, decide_eq_false_iff_not, Nat.not_lt, Nat.not_le]
          exact K2 (ce_cb D t s) (by rw [ce_any_s, ← Bool.or_assoc, ← hb, Bool.false_or]; rfl)
    have hR1 : cd_refD D I1 := hR.of (fun a k h1 h2 => f1 a k (by omega))
    refine cw_m (fun _ => cd_s235_4) ?_
    by_cases h0 : s = 0
    · have loop := loop (cd_up I1 129 s (nI 1)) (fun a k h => cd_up_k2 h)
      rw [decide_eq_true h0] at loop
      generalize (fun (v : Option Value) (I1 : Nat → Nat → Int32) (J1 : Nat → Nat → Int64) => v = some (.int (nI (ce_tall D))) ∧ J1 = J ∧ (∀ a k, a ≠ 129 → I1 a k = I a k) ∧ ce_pls D (fun _ => True) I1) = Q at *
      simp (disch := omega) only [cw_l0, cw_l1, cw_l2, cw_l3, cw_l4, cw_l5, cw_l6, cw_l7, cw_l8, cw_l9, cw_l10, cw_l11, cw_l12, cw_l13, cw_l14, cw_l15, cw_l16, cw_l17, cw_l18, cw_l19, cw_l20, cw_l27, cw_l28, cw_l31, cw_l32, cw_l40, cw_l52, cw_l60, cw_l61, cw_l63, cw_l64, cw_l80, cw_l97, cw_l99, cw_l100, cw_l255, cw_l500, cw_l999, cw_l65536, cd_inN, nI_clamp, nI_add, pk_mul, cw_subc, cw_zz, pk_div, cw_ltN, cw_eqN, cw_tf0, cw_tf1, cw_tfa, cw_bi, cw_bl, cw_bv, if_true, if_false, Bool.false_eq_true, Bool.true_eq_false, ite_self, cw_neg1, cw_m1a, cw_ztl, cw_zeq, cw_zadd, cw_znadd, cw_nzadd, cw_zsub, cw_zmul, cw_znmul, cw_nzmul, cw_ltNZ, cw_eqZN, cw_eqNZ, cw_ltZN, cw_on, cw_os, cw_c0, cw_c1, cw_c2, cw_c3, cw_c4, cw_c5, cw_c8, cw_c10, cw_c40, cw_c80, cw_c100, cp_144z, cp_140n, cw_mabs, cw_mod8, decide_eq_true_eq, not_false_eq_true, not_true_eq_false, true_and, and_true, false_and, and_false, decide_eq_false_iff_not, Nat.not_lt, Nat.not_le, if_pos, if_neg, hR1.1.1, cw_sh1]
      exact loop
    · have loop := loop (cd_up I1 129 s (nI 0)) (fun a k h => cd_up_k2 h)
      rw [decide_eq_false h0] at loop
      generalize (fun (v : Option Value) (I1 : Nat → Nat → Int32) (J1 : Nat → Nat → Int64) => v = some (.int (nI (ce_tall D))) ∧ J1 = J ∧ (∀ a k, a ≠ 129 → I1 a k = I a k) ∧ ce_pls D (fun _ => True) I1) = Q at *
      simp (disch := omega) only [cw_l0, cw_l1, cw_l2, cw_l3, cw_l4, cw_l5, cw_l6, cw_l7, cw_l8, cw_l9, cw_l10, cw_l11, cw_l12, cw_l13, cw_l14, cw_l15, cw_l16, cw_l17, cw_l18, cw_l19, cw_l20, cw_l27, cw_l28, cw_l31, cw_l32, cw_l40, cw_l52, cw_l60, cw_l61, cw_l63, cw_l64, cw_l80, cw_l97, cw_l99, cw_l100, cw_l255, cw_l500, cw_l999, cw_l65536, cd_inN, nI_clamp, nI_add, pk_mul, cw_subc, cw_zz, pk_div, cw_ltN, cw_eqN, cw_tf0, cw_tf1, cw_tfa, cw_bi, cw_bl, cw_bv, if_true, if_false, Bool.false_eq_true, Bool.true_eq_false, ite_self, cw_neg1, cw_m1a, cw_ztl, cw_zeq, cw_zadd, cw_znadd, cw_nzadd, cw_zsub, cw_zmul, cw_znmul, cw_nzmul, cw_ltNZ, cw_eqZN, cw_eqNZ, cw_ltZN, cw_on, cw_os, cw_c0, cw_c1, cw_c2, cw_c3, cw_c4, cw_c5, cw_c8, cw_c10, cw_c40, cw_c80, cw_c100, cp_144z, cp_140n, cw_mabs, cw_mod8, decide_eq_true_eq, not_false_eq_true, not_true_eq_false, true_and, and_true, false_and, and_false, decide_eq_false_iff_not, Nat.not_lt, Nat.not_le, if_pos, if_neg, hR1.1.1, cw_sh1]
      exact loop
end CFB
