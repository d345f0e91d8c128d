/-! ===== the reference: order ===== -/
/-- the next of an order, what is left behind i steps -/
def ce_nxt (F : Nat → Bool) (n m : Nat) : Option Nat := ce_fst (ce_op F n m) n 0
def ce_lft (F : Nat → Bool) (n m : Nat) : Nat → Nat
  | 0 => m
  | i + 1 => match ce_nxt F n (ce_lft F n m i) with
    | none => ce_lft F n m i
    | some k => ce_lft F n m i ^^^ 2 ^ k
theorem ce_nxt_some {F : Nat → Bool} {n m : Nat} (hm : m < 2 ^ n) (h0 : m ≠ 0) (hg : ce_gg F n m = true) : ∃ k, ce_nxt F n m = some k ∧ k < n ∧ m.testBit k = true ∧ ce_gg F n (m ^^^ 2 ^ k) = true := by
  rw [ce_gg_eq hm, decide_eq_false h0, Bool.false_or, ce_any_t] at hg
  obtain ⟨j, hj, hp⟩ := hg
  cases hq : ce_nxt F n m with
  | none =>
    have := ce_fst_none hq j (by omega) (by omega)
    rw [hp] at this
    cases this
  | some k =>
    obtain ⟨-, h2, h3, -⟩ := ce_fst_some hq
    unfold ce_op at h3
    rw [Bool.and_eq_true, Bool.and_eq_true] at h3
    exact ⟨k, rfl, by omega, h3.1, h3.2.2⟩
/-- orders: F tells how it stands with m still to do -/
def ce_oF (D : cd_D) (S : cd_S) (dn : Bool) (hand m : Nat) : Bool := ce_sw D S (S 0 2) hand (if dn then m else ce_an (S 0 2) m)
def ce_orA (D : cd_D) (S : cd_S) (hand : Nat) (dn : Bool) (x : Int32) : Int32 := if ce_gg (ce_oF D S dn hand) (D 0 2) (S 0 2) then (if x = -1 then 1 else if ce_ix x (fa_cnt (cd_held S) (D 0 2)) then cd_oi (ce_nxt (ce_oF D S dn hand) (D 0 2) (ce_lft (ce_oF D S dn hand) (D 0 2) (S 0 2) x.toNatClampNeg)) else -1) else -1
theorem ce_an_an {all m : Nat} (h : ce_an m all = 0) : ce_an all (ce_an all m) = m := by
  refine Nat.eq_of_testBit_eq (fun k => ?_)
  rw [ce_an_tb, ce_an_tb]
  rw [ce_an0] at h
  cases q1 : m.testBit k with
  | true => rw [h k q1]; rfl
  | false => cases all.testBit k <;> rfl
theorem ce_an_sub {all m : Nat} : ce_an (ce_an all m) all = 0 := by
  rw [ce_an0]
  intro k hk
  rw [ce_an_tb, Bool.and_eq_true] at hk
  exact hk.1
section CFA
variable {L : Nat} {w : Bool} {I : Nat → Nat → Int32} {J : Nat → Nat → Int64} {D : cd_D} {S : cd_S}
variable {Y : ce_Y} {T : cd_S}
theorem cp_228o (hM : ce_M D S Y I) {x y z : Int32} (hx : ce_ix x 5 = false) : cw L w (cd_c 228 [.ref 100, .int x, .int y, .int z] (cd_mm L w I J)) (ce_post (.int (-1002)) D S Y I J) := by
  have e := ce_ixl (x := x) (n := 5) (h := 4) rfl (by decide)
  refine cw_c (l := [_, _, _, _, _, _, _, _, _, _, _]) rfl rfl ?_
  refine cw_m (fun _ => cd_s228_0) ?_
  simp (disch := omega) only [cw_l0, cw_l1, cw_l2, cw_l3, cw_l4, cw_l5, cw_l6, cw_l7, cw_l8, cw_l9, cw_l10, cw_l11, cw_l12, cw_l13, cw_l14, cw_l15, cw_l16, cw_l17, cw_l18, cw_l19, cw_l20, cw_l27, cw_l28, cw_l31, cw_l32, cw_l40, cw_l52, cw_l60, cw_l61, cw_l63, cw_l64, cw_l80, cw_l97, cw_l99, cw_l100, cw_l255, cw_l500, cw_l999, cw_l65536, cd_inN, nI_clamp, nI_add, pk_mul, cw_subc, cw_zz, pk_div, cw_ltN, cw_eqN, cw_tf0, cw_tf1, cw_tfa, cw_bi, cw_bl, cw_bv, if_true, if_false, Bool.false_eq_true, Bool.true_eq_false, ite_self, cw_neg1, cw_m1a, cw_ztl, cw_zeq, cw_zadd, cw_znadd, cw_nzadd, cw_zsub, cw_zmul, cw_znmul, cw_nzmul, cw_ltNZ, cw_eqZN, cw_eqNZ, cw_ltZN, cw_on, cw_os, cw_c0, cw_c1, cw_c2, cw_c3, cw_c4, cw_c5, cw_c8, cw_c10, cw_c40, cw_c80, cw_c100, cp_144z, cp_140n, cw_mabs, cw_mod8, decide_eq_true_eq, not_false_eq_true, not_true_eq_false, true_and, and_true, false_and, and_false, decide_eq_false_iff_not, Nat.not_lt, Nat.not_le, cp_138, e, hx]
  refine cw_m (fun _ => cd_s228_5) ?_
  simp (disch := omega) only [cw_l0, cw_l1, cw_l2, cw_l3, cw_l4, cw_l5, cw_l6, cw_l7, cw_l8, cw_l9, cw_l10, cw_l11, cw_l12, cw_l13, cw_l14, cw_l15, cw_l16, cw_l17, cw_l18, cw_l19, cw_l20, cw_l27, cw_l28, cw_l31, cw_l32, cw_l40, cw_l52, cw_l60, cw_l61, cw_l63, cw_l64, cw_l80, cw_l97, cw_l99, cw_l100, cw_l255, cw_l500, cw_l999, cw_l65536, cd_inN, nI_clamp, nI_add, pk_mul, cw_subc, cw_zz, pk_div, cw_ltN, cw_eqN, cw_tf0, cw_tf1, cw_tfa, cw_bi, cw_bl, cw_bv, if_true, if_false, Bool.false_eq_true, Bool.true_eq_false, ite_self, cw_neg1, cw_m1a, cw_ztl, cw_zeq, cw_zadd, cw_znadd, cw_nzadd, cw_zsub, cw_zmul, cw_znmul, cw_nzmul, cw_ltNZ, cw_eqZN, cw_eqNZ, cw_ltZN, cw_on, cw_os, cw_c0, cw_c1, cw_c2, cw_c3, cw_c4, cw_c5, cw_c8, cw_c10, cw_c40, cw_c80, cw_c100, cp_144z, cp_140n, cw_mabs, cw_mod8, decide_eq_true_eq, not_false_eq_true, not_true_eq_false, true_and, and_true, false_and, and_false, decide_eq_false_iff_not, Nat.not_lt, Nat.not_le]
  exact cw_ret ⟨rfl, hM, ce_fC.rf⟩
theorem cp_228 (hK : ce_ok D S Y) (hM : ce_M D S Y I) {hand : Nat} {dn : Bool} {z : Int32} (hh : hand < 5) : cw L w (cd_c 228 [.ref 100, .int (nI hand), .int (cd_tf dn), .int z] (cd_mm L w I J)) (ce_post (.int (if fa_cnt (cd_held S) (D 0 2) ≤ 7 then ce_orA D S hand dn z else -1003)) D S Y I J) := by
  have h8 := hK.1.1.1
  have h12 := hK.1.1.2.2.1
  have h2p := ce_pw h12
  have hp0 : 0 < 2 ^ D 0 2 := Nat.pow_pos (by decide)
  have e := ce_ixl (x := nI hand) (n := 5) (h := 4) rfl (by decide)
  have hal := hK.2.1.1.2.2.1
  have c4 := cp_224 (L := L) (w := w) (J := J) hK.1 hM.1 hM.2.1 hal
  refine cw_c (l := [_, _, _, _, _, _, _, _, _, _, _]) rfl rfl ?_
  refine cw_m (fun _ => cd_s228_0) ?_
  simp (disch := omega) only [cw_l0, cw_l1, cw_l2, cw_l3, cw_l4, cw_l5, cw_l6, cw_l7, cw_l8, cw_l9, cw_l10, cw_l11, cw_l12, cw_l13, cw_l14, cw_l15, cw_l16, cw_l17, cw_l18, cw_l19, cw_l20, cw_l27, cw_l28, cw_l31, cw_l32, cw_l40, cw_l52, cw_l60, cw_l61, cw_l63, cw_l64, cw_l80, cw_l97, cw_l99, cw_l100, cw_l255, cw_l500, cw_l999, cw_l65536, cd_inN, nI_clamp, nI_add, pk_mul, cw_subc, cw_zz, pk_div, cw_ltN, cw_eqN, cw_tf0, cw_tf1, cw_tfa, cw_bi, cw_bl, cw_bv, if_true, if_false, Bool.false_eq_true, Bool.true_eq_false, ite_self, cw_neg1, cw_m1a, cw_ztl, cw_zeq, cw_zadd, cw_znadd, cw_nzadd, cw_zsub, cw_zmul, cw_znmul, cw_nzmul, cw_ltNZ, cw_eqZN, cw_eqNZ, cw_ltZN, cw_on, cw_os, cw_c0, cw_c1, cw_c2, cw_c3, cw_c4, cw_c5, cw_c8, cw_c10, cw_c40, cw_c80, cw_c100, cp_144z, cp_140n, cw_mabs, cw_mod8, decide_eq_true_eq, not_false_eq_true, not_true_eq_false, true_and, and_true, false_and, and_false, decide_eq_false_iff_not, Nat.not_lt, Nat.not_le, cp_138, e, ce_ix_n hh (by decide)]
  refine cw_m (fun _ => cd_s228_5) ?_
  simp (disch := omega) only [cw_l0, cw_l1, cw_l2, cw_l3, cw_l4, cw_l5, cw_l6, cw_l7, cw_l8, cw_l9, cw_l10, cw_l11, cw_l12, cw_l13, cw_l14, cw_l15, cw_l16, cw_l17, cw_l18, cw_l19, cw_l20, cw_l27, cw_l28, cw_l31, cw_l32, cw_l40, cw_l52, cw_l60, cw_l61, cw_l63, cw_l64, cw_l80, cw_l97, cw_l99, cw_l100, cw_l255, cw_l500, cw_l999, cw_l65536, cd_inN, nI_clamp, nI_add, pk_mul, cw_subc, cw_zz, pk_div, cw_ltN, cw_eqN, cw_tf0, cw_tf1, cw_tfa, cw_bi, cw_bl, cw_bv, if_true, if_false, Bool.false_eq_true, Bool.true_eq_false, ite_self, cw_neg1, cw_m1a, cw_ztl, cw_zeq, cw_zadd, cw_znadd, cw_nzadd, cw_zsub, cw_zmul, cw_znmul, cw_nzmul, cw_ltNZ, cw_eqZN, cw_eqNZ, cw_ltZN, cw_on, cw_os, cw_c0, cw_c1, cw_c2, cw_c3, cw_c4, cw_c5, cw_c8, cw_c10, cw_c40, cw_c80, cw_c100, cp_144z, cp_140n, cw_mabs, cw_mod8, decide_eq_true_eq, not_false_eq_true, not_true_eq_false, true_and, and_true, false_and, and_false, decide_eq_false_iff_not, Nat.not_lt, Nat.not_le, c4]
  refine cw_m (fun _ => cd_s228_10) ?_
  refine cw_up (fun i (_ : Unit) => cd_go 228 15 [.ref 100, .int (nI hand), .int (cd_tf dn), .int z, .int (nI (S 0 2)), .int (nI (fa_cnt (cd_held S) i)), .int (nI i), .null, .null, .null, .null] [] (cd_mm L w I J)) (fun _ _ => True) (D 0 2) ?_ ?_ 0 () (by omega) trivial
  · intro _ _
    have hcl := fa_cnt_le (cd_held S) (D 0 2)
    refine cw_m (fun _ => cd_s228_15) ?_
    by_cases hf : fa_cnt (cd_held S) (D 0 2) ≤ 7
    · rw [if_pos hf]
      simp (disch := omega) only [cw_l0, cw_l1, cw_l2, cw_l3, cw_l4, cw_l5, cw_l6, cw_l7, cw_l8, cw_l9, cw_l10, cw_l11, cw_l12, cw_l13, cw_l14, cw_l15, cw_l16, cw_l17, cw_l18, cw_l19, cw_l20, cw_l27, cw_l28, cw_l31, cw_l32, cw_l40, cw_l52, cw_l60, cw_l61, cw_l63, cw_l64, cw_l80, cw_l97, cw_l99, cw_l100, cw_l255, cw_l500, cw_l999, cw_l65536, cd_inN, nI_clamp, nI_add, pk_mul, cw_subc, cw_zz, pk_div, cw_ltN, cw_eqN, cw_tf0, cw_tf1, cw_tfa, cw_bi, cw_bl, cw_bv, if_true, if_false, Bool.false_eq_true, Bool.true_eq_false, ite_self, cw_neg1, cw_m1a, cw_ztl, cw_zeq, cw_zadd, cw_znadd, cw_nzadd, cw_zsub, cw_zmul, cw_znmul, cw_nzmul, cw_ltNZ, cw_eqZN, cw_eqNZ, cw_ltZN, cw_on, cw_os, cw_c0, cw_c1, cw_c2, cw_c3, cw_c4, cw_c5, cw_c8, cw_c10, cw_c40, cw_c80, cw_c100, cp_144z, cp_140n, cw_mabs, cw_mod8, decide_eq_true_eq, not_false_eq_true, not_true_eq_false, true_and, and_true, false_and, and_false, decide_eq_false_iff_not, Nat.not_lt, Nat.not_le, if_pos, if_neg, hM.1.1.2.2.1]
      refine cw_cv (cw_mono (cp_226 hK hM (all := S 0 2) (m := hand) hal (by omega)) ?_)
      intro v I1 J1 ⟨hv, hJ, t1, hfin⟩
      subst hv hJ
      refine ⟨rfl, ?_⟩
      have hM1 : ce_M D S Y I1 := t1.M hK.1 hM
      refine cw_m (fun _ => cd_s228_40) ?_
      refine cw_cv (cw_mono (cp_227 h12 hM1.1 (F := ce_oF D S dn hand) (dn := dn) (all := S 0 2) hal (fun set hs hsub => by
        rw [hfin set hs hsub]
        unfold ce_oF ce_tdo
        cases dn with
        | true => rfl
        | false =>
          show _ = cd_tf (ce_sw D S (S 0 2) hand (ce_an (S 0 2) (ce_an (S 0 2) set)))
          rw [ce_an_an hsub])) ?_)
      intro v I2 J2 ⟨hv, hJ, f2, hled⟩
      subst hv hJ
      refine ⟨rfl, ?_⟩
      have hM2 : ce_M D S Y I2 := hM1.of hK.1 (fun a k _ h => f2 a k (by unfold ce_scr at h; omega))
      have hF2 : ce_fC I J2 I2 J2 := ce_fCr (fun a k h => by rw [f2 a k (by omega)]; exact t1.1 a k (by unfold ce_sc2 ce_scr; omega))
      have hfin2 : ∀ set, set < 2 ^ D 0 2 → ce_an set (S 0 2) = 0 → I2 127 set = cd_tf (ce_oF D S dn hand (ce_tdo dn (S 0 2) set)) := fun set hs hsub => by
        rw [f2 _ _ (by decide), hfin set hs hsub]
        unfold ce_oF ce_tdo
        cases dn with
        | true => rfl
        | false =>
          show _ = cd_tf (ce_sw D S (S 0 2) hand (ce_an (S 0 2) (ce_an (S 0 2) set)))
          rw [ce_an_an hsub]
      unfold ce_led at hled
      unfold ce_orA
      -- many, as a number of bits
      have hmany : fa_cnt (cd_held S) (D 0 2) = fa_cnt (fun k => (S 0 2).testBit k) (D 0 2) := rfl
      generalize hFF : ce_oF D S dn hand = F at *
      generalize hall : S 0 2 = all at *
      generalize hmm : fa_cnt (cd_held S) (D 0 2) = many at *
      have e5 : many < 2 ^ 31 := by omega
      -- the end of the walk
      have fin : ∀ (x6 x7 x8 : Int32) (w9 w10 : Value) (a : Int32), (ce_ix z many = true → x7 = a) → (ce_ix z many = false → a = -1) → cw L w ((cd_ci (cd_c 138 [.long z.toInt64, .long 0, .long ((nI many - nI 1).toInt64)] (cd_mm L w I2 J2))).bind fun q => cd_go 228 137 [.ref 100, .int (nI hand), .int (cd_tf dn), .int z, .int (nI all), .int (nI many), .int x6, .int x7, .int x8, w9, w10] [.int q.1] q.2) (ce_post (.int a) D S Y I J2) := by
        intro x6 x7 x8 w9 w10 a h1 h2
        have e6 := ce_ixw (x := z) (n := many) e5
        rw [cw_sub2, show ((1 : Nat) : Int) = 1 from rfl]
        simp (disch := omega) only [cw_l0, cw_l1, cw_l2, cw_l3, cw_l4, cw_l5, cw_l6, cw_l7, cw_l8, cw_l9, cw_l10, cw_l11, cw_l12, cw_l13, cw_l14, cw_l15, cw_l16, cw_l17, cw_l18, cw_l19, cw_l20, cw_l27, cw_l28, cw_l31, cw_l32, cw_l40, cw_l52, cw_l60, cw_l61, cw_l63, cw_l64, cw_l80, cw_l97, cw_l99, cw_l100, cw_l255, cw_l500, cw_l999, cw_l65536, cd_inN, nI_clamp, nI_add, pk_mul, cw_subc, cw_zz, pk_div, cw_ltN, cw_eqN, cw_tf0, cw_tf1, cw_tfa, cw_bi, cw_bl, cw_bv, if_true, if_false, Bool.false_eq_true, Bool.true_eq_false, ite_self, cw_neg1, cw_m1a, cw_ztl, cw_zeq, cw_zadd, cw_znadd, cw_nzadd, cw_zsub, cw_zmul, cw_znmul, cw_nzmul, cw_ltNZ, cw_eqZN, cw_eqNZ, cw_ltZN, cw_on, cw_os, cw_c0, cw_c1, cw_c2, cw_c3, cw_c4, cw_c5, cw_c8, cw_c10, cw_c40, cw_c80, cw_c100, cp_144z, cp_140n, cw_mabs, cw_mod8, decide_eq_true_eq, not_false_eq_true, not_true_eq_false, true_and, and_true, false_and, and_false, decide_eq_false_iff_not, Nat.not_lt, Nat.not_le, cp_138, e6]
        refine cw_m (fun _ => cd_s228_137) ?_
        cases hz : ce_ix z many with
        | false =>
          simp (disch := omega) only [cw_l0, cw_l1, cw_l2, cw_l3, cw_l4, cw_l5, cw_l6, cw_l7, cw_l8, cw_l9, cw_l10, cw_l11, cw_l12, cw_l13, cw_l14, cw_l15, cw_l16, cw_l17, cw_l18, cw_l19, cw_l20, cw_l27, cw_l28, cw_l31, cw_l32, cw_l40, cw_l52, cw_l60, cw_l61, cw_l63, cw_l64, cw_l80, cw_l97, cw_l99, cw_l100, cw_l255, cw_l500, cw_l999, cw_l65536, cd_inN, nI_clamp, nI_add, pk_mul, cw_subc, cw_zz, pk_div, cw_ltN, cw_eqN, cw_tf0, cw_tf1, cw_tfa, cw_bi, cw_bl, cw_bv, if_true, if_false, Bool.false_eq_true, Bool.true_eq_false, ite_self, cw_neg1, cw_m1a, cw_ztl, cw_zeq, cw_zadd, cw_znadd, cw_nzadd, cw_zsub, cw_zmul, cw_znmul, cw_nzmul, cw_ltNZ, cw_eqZN, cw_eqNZ, cw_ltZN, cw_on, cw_os, cw_c0, cw_c1, cw_c2, cw_c3, cw_c4, cw_c5, cw_c8, cw_c10, cw_c40, cw_c80, cw_c100, cp_144z, cp_140n, cw_mabs, cw_mod8, decide_eq_true_eq, not_false_eq_true, not_true_eq_false, true_and, and_true, false_and, and_false, decide_eq_false_iff_not, Nat.not_lt, Nat.not_le]
          rw [h2 hz]
          exact cw_ret ⟨rfl, hM2, hF2⟩
        | true =>
          simp (disch := omega) only [cw_l0, cw_l1, cw_l2, cw_l3, cw_l4, cw_l5, cw_l6, cw_l7, cw_l8, cw_l9, cw_l10, cw_l11, cw_l12, cw_l13, cw_l14, cw_l15, cw_l16, cw_l17, cw_l18, cw_l19, cw_l20, cw_l27, cw_l28, cw_l31, cw_l32, cw_l40, cw_l52, cw_l60, cw_l61, cw_l63, cw_l64, cw_l80, cw_l97, cw_l99, cw_l100, cw_l255, cw_l500, cw_l999, cw_l65536, cd_inN, nI_clamp, nI_add, pk_mul, cw_subc, cw_zz, pk_div, cw_ltN, cw_eqN, cw_tf0, cw_tf1, cw_tfa, cw_bi, cw_bl, cw_bv, if_true, if_false, Bool.false_eq_true, Bool.true_eq_false, ite_self, cw_neg1, cw_m1a, cw_ztl, cw_zeq, cw_zadd, cw_znadd, cw_nzadd, cw_zsub, cw_zmul, cw_znmul, cw_nzmul, cw_ltNZ, cw_eqZN, cw_eqNZ, cw_ltZN, cw_on, cw_os, cw_c0, cw_c1, cw_c2, cw_c3, cw_c4, cw_c5, cw_c8, cw_c10, cw_c40, cw_c80, cw_c100, cp_144z, cp_140n, cw_mabs, cw_mod8, decide_eq_true_eq, not_false_eq_true, not_true_eq_false, true_and, and_true, false_and, and_false, decide_eq_false_iff_not, Nat.not_lt, Nat.not_le]
          rw [h1 hz]
          exact cw_ret ⟨rfl, hM2, hF2⟩
      have walk : ce_gg F (D 0 2) all = true → ∀ (set : Nat), set < 2 ^ D 0 2 → ce_an set all = 0 → ce_tdo dn all set = all → ∀ w9 w10, cw L w (cd_go 228 66 [.ref 100, .int (nI hand), .int (cd_tf dn), .int z, .int (nI all), .int (nI many), .int (nI set), .int (-1), .int 0, w9, w10] [] (cd_mm L w I2 J2)) (ce_post (.int (if ce_ix z many then cd_oi (ce_nxt F (D 0 2) (ce_lft F (D 0 2) all z.toNatClampNeg)) else -1)) D S Y I J2) := by
        intro hg0 set0 hs0 hsub0 htd0 w9 w10
        refine cw_up (fun i (s : Nat × Int32 × Value × Value) => cd_go 228 66 [.ref 100, .int (nI hand), .int (cd_tf dn), .int z, .int (nI all), .int (nI many), .int (nI s.1), .int s.2.1, .int (nI i), s.2.2.1, s.2.2.2] [] (cd_mm L w I2 J2)) (fun i s => s.1 < 2 ^ D 0 2 ∧ ce_an s.1 all = 0 ∧ ce_tdo dn all s.1 = ce_lft F (D 0 2) all i ∧ ce_gg F (D 0 2) (ce_lft F (D 0 2) all i) = true ∧ fa_cnt (fun k => (ce_lft F (D 0 2) all i).testBit k) (D 0 2) + i = many ∧ (∀ j, ce_ix z many = true → z = nI j → i ≤ j + 1) ∧ (∀ j, i = j + 1 → s.2.1 = cd_oi (ce_nxt F (D 0 2) (ce_lft F (D 0 2) all j)))) many ?_ ?_ 0 (set0, -1, w9, w10) (by omega) ⟨hs0, hsub0, htd0, hg0, by rw [hmany]; rfl, fun j _ _ => by omega, fun j hj => by omega⟩
        · intro ⟨set, x7, u9, u10⟩ ⟨hs, hsub, htd, hg, hcn, hjj, hx7⟩
          replace hx7 : ∀ j, many = j + 1 → x7 = cd_oi (ce_nxt F (D 0 2) (ce_lft F (D 0 2) all j)) := hx7
          have fin := fin (nI set) x7 (nI many) u9 u10 (if ce_ix z many then cd_oi (ce_nxt F (D 0 2) (ce_lft F (D 0 2) all z.toNatClampNeg)) else -1) (fun hz => by
            obtain ⟨j, hj, rfl⟩ := ce_ix_t hz
            have := hjj j hz rfl
            rw [hz, if_pos rfl, nI_clamp (by omega)]
            exact hx7 j (by omega)) (fun hz => by rw [hz]; rfl)
          refine cw_m (fun _ => cd_s228_66) ?_
          refine cw_if (fun _ => fin) (fun _ => ?_)
          rw [if_neg (nI_nlt (Nat.le_refl _) e5)]
          exact fin
        · intro i ⟨set, x7, u9, u10⟩ hi ⟨hs, hsub, htd, hg, hcn, hjj, hx7⟩ K
          replace hs : set < 2 ^ D 0 2 := hs
          replace hsub : ce_an set all = 0 := hsub
          replace htd : ce_tdo dn all set = ce_lft F (D 0 2) all i := htd
          replace hx7 : ∀ j, i = j + 1 → x7 = cd_oi (ce_nxt F (D 0 2) (ce_lft F (D 0 2) all j)) := hx7
          have hml : ce_lft F (D 0 2) all i < 2 ^ D 0 2 := by rw [← htd]; exact ce_tdo_lt hal hs
          have hm0 : ce_lft F (D 0 2) all i ≠ 0 := fun q => by
            rw [q] at hcn
            have : fa_cnt (fun k => (0 : Nat).testBit k) (D 0 2) = 0 := by
              have h := ce_cnt_eq (p := fun k => (0 : Nat).testBit k) (q := fun _ => false) (n := D 0 2) (fun k _ => Nat.zero_testBit k)
              rw [h]
              generalize D 0 2 = n
              induction n with
              | zero => rfl
              | succ n ih => rw [ce_cnt_s, ih]; rfl
            omega
          obtain ⟨k0, hk1, hk2, hk3, hk4⟩ := ce_nxt_some hml hm0 hg
          have hlf : ce_lft F (D 0 2) all (i + 1) = ce_lft F (D 0 2) all i ^^^ 2 ^ k0 := by
            show (match ce_nxt F (D 0 2) (ce_lft F (D 0 2) all i) with | none => _ | some k => _) = _
            rw [hk1]
          have hak : all.testBit k0 = true := ce_tdo_sub hsub (by rw [htd]; exact hk3)
          refine cw_m (fun _ => cd_s228_66) ?_
          by_cases hlt : z < nI i
          · rw [if_pos hlt]
            refine fin (nI set) x7 (nI i) u9 u10 _ (fun hz => ?_) (fun hz => by rw [hz]; rfl)
            obtain ⟨j, hj, rfl⟩ := ce_ix_t hz
            have h1 := hjj j hz rfl
            have h2 := (nI_ltI (by omega) (by omega)).mp hlt
            rw [hz, if_pos rfl, nI_clamp (by omega)]
            exact hx7 j (by omega)
          · have hjz : ∀ j, ce_ix z many = true → z = nI j → i + 1 ≤ j + 1 := fun j hz hzj => by
              obtain ⟨j2, hj2, h22⟩ := ce_ix_t hz
              have h3 : j2 < 2 ^ 31 := by omega
              subst h22
              have h4 : ¬ j2 < i := fun q => hlt (nI_lt q (by omega))
              by_cases hj31 : j < 2 ^ 31
              · have := (nI_eq h3 hj31).mp hzj
                omega
              · omega
            rw [if_neg hlt, if_pos (nI_lt hi e5), hM2.1.1.2.2.1, show nI (D 0 2) - 1 = zI ((D 0 2 : Int) - 1) from cw_sub2 _ 1]
            -- the inner walk
            have go := cw_dn (L := L) (w := w) (Q := ce_post (.int (if ce_ix z many then cd_oi (ce_nxt F (D 0 2) (ce_lft F (D 0 2) all z.toNatClampNeg)) else -1)) D S Y I J2) (fun k (s : Value) => cd_go 228 79 [.ref 100, .int (nI hand), .int (cd_tf dn), .int z, .int (nI all), .int (nI many), .int (nI set), .int (cd_oi (ce_fst (ce_op F (D 0 2) (ce_lft F (D 0 2) all i)) (D 0 2 - k) k)), .int (nI i), .int (zI ((k : Int) - 1)), s] [] (cd_mm L w I2 J2)) (fun k _ => k ≤ D 0 2) ?_ ?_ (D 0 2) u10 (Nat.le_refl _)
            · rw [Nat.sub_self, show ce_fst (ce_op F (D 0 2) (ce_lft F (D 0 2) all i)) 0 (D 0 2) = none from rfl] at go
              exact go
            · intro u _
              rw [Nat.sub_zero, show ce_fst (ce_op F (D 0 2) (ce_lft F (D 0 2) all i)) (D 0 2) 0 = ce_nxt F (D 0 2) (ce_lft F (D 0 2) all i) from rfl, hk1]
              have htb : (ce_tdo dn all set).testBit k0 = true := by rw [htd]; exact hk3
              have K := K (set ^^^ 2 ^ k0, nI k0, .int (zI ((0 : Nat) - 1)), u) ⟨ce_xlt hs hk2, ce_sub_x hsub hak, by rw [hlf, ← htd]; exact ce_tdo_x hak, by rw [hlf]; exact hk4, by
                rw [hlf]
                have := ce_cnt_flip hk3 (D 0 2) hk2
                omega, hjz, fun j hj => by
                have : j = i := by omega
                subst this
                rw [hk1]
                rfl⟩
              refine cw_m (fun _ => cd_s228_79) ?_
              simp (disch := omega) only [cw_l0, cw_l1, cw_l2, cw_l3, cw_l4, cw_l5, cw_l6, cw_l7, cw_l8, cw_l9, cw_l10, cw_l11, cw_l12, cw_l13, cw_l14, cw_l15, cw_l16, cw_l17, cw_l18, cw_l19, cw_l20, cw_l27, cw_l28, cw_l31, cw_l32, cw_l40, cw_l52, cw_l60, cw_l61, cw_l63, cw_l64, cw_l80, cw_l97, cw_l99, cw_l100, cw_l255, cw_l500, cw_l999, cw_l65536, cd_inN, nI_clamp, nI_add, pk_mul, cw_subc, cw_zz, pk_div, cw_ltN, cw_eqN, cw_tf0, cw_tf1, cw_tfa, cw_bi, cw_bl, cw_bv, if_true, if_false, Bool.false_eq_true, Bool.true_eq_false, ite_self, cw_neg1, cw_m1a, cw_ztl, cw_zeq, cw_zadd, cw_znadd, cw_nzadd, cw_zsub, cw_zmul, cw_znmul, cw_nzmul, cw_ltNZ, cw_eqZN, cw_eqNZ, cw_ltZN, cw_on, cw_os, cw_c0, cw_c1, cw_c2, cw_c3, cw_c4, cw_c5, cw_c8, cw_c10, cw_c40, cw_c80, cw_c100, cp_144z, cp_140n, cw_mabs, cw_mod8, decide_eq_true_eq, not_false_eq_true, not_true_eq_false, true_and, and_true, false_and, and_false, decide_eq_false_iff_not, Nat.not_lt, Nat.not_le, if_pos, if_neg, cw_sh1, cw_xor]
              exact K
            · intro k u hk K2
              replace hk : k + 1 ≤ D 0 2 := hk
              have K2 : ∀ (o : Option Nat) u, o = ce_fst (ce_op F (D 0 2) (ce_lft F (D 0 2) all i)) (D 0 2 - k) k → cw L w (cd_go 228 79 [.ref 100, .int (nI hand), .int (cd_tf dn), .int z, .int (nI all), .int (nI many), .int (nI set), .int (cd_oi o), .int (nI i), .int (zI ((k : Int) - 1)), u] [] (cd_mm L w I2 J2)) _ := fun o u ho => by rw [ho]; exact K2 u (by omega)
              rw [ce_fst_st (by omega)] at K2
              rw [show (((k + 1 : Nat) : Int) - 1) = (k : Int) by omega, zI_n]
              have hop : ce_op F (D 0 2) (ce_lft F (D 0 2) all i) k = ((ce_tdo dn all set).testBit k && (F (ce_tdo dn all set ^^^ 2 ^ k) && ce_gg F (D 0 2) (ce_tdo dn all set ^^^ 2 ^ k))) := by rw [htd]; rfl
              generalize ce_fst (ce_op F (D 0 2) (ce_lft F (D 0 2) all i)) (D 0 2 - (k + 1)) (k + 1) = o at *
              have htl := ce_tdo_lt (dn := dn) hal hs
              have c0 := cp_139n (L := L) (w := w) (I := I2) (J := J2) (h := ce_tdo dn all set) (k := k) (by omega) (by omega)
              have tail : cw L w (cd_go 228 94 [.ref 100, .int (nI hand), .int (cd_tf dn), .int z, .int (nI all), .int (nI many), .int (nI set), .int (cd_oi o), .int (nI i), .int (nI k), u] [.int (cd_tf ((ce_tdo dn all set).testBit k))] (cd_mm L w I2 J2)) (ce_post (.int (if ce_ix z many then cd_oi (ce_nxt F (D 0 2) (ce_lft F (D 0 2) all z.toNatClampNeg)) else -1)) D S Y I J2) := by
                refine cw_m (fun _ => cd_s228_94) ?_
                cases ht : (ce_tdo dn all set).testBit k with
                | false =>
                  simp (disch := omega) only [cw_l0, cw_l1, cw_l2, cw_l3, cw_l4, cw_l5, cw_l6, cw_l7, cw_l8, cw_l9, cw_l10, cw_l11, cw_l12, cw_l13, cw_l14, cw_l15, cw_l16, cw_l17, cw_l18, cw_l19, cw_l20, cw_l27, cw_l28, cw_l31, cw_l32, cw_l40, cw_l52, cw_l60, cw_l61, cw_l63, cw_l64, cw_l80, cw_l97, cw_l99, cw_l100, cw_l255, cw_l500, cw_l999, cw_l65536, cd_inN, nI_clamp, nI_add, pk_mul, cw_subc, cw_zz, pk_div, cw_ltN, cw_eqN, cw_tf0, cw_tf1, cw_tfa, cw_bi, cw_bl, cw_bv, if_true, if_false, Bool.false_eq_true, Bool.true_eq_false, ite_self, cw_neg1, cw_m1a, cw_ztl, cw_zeq, cw_zadd, cw_znadd, cw_nzadd, cw_zsub, cw_zmul, cw_znmul, cw_nzmul, cw_ltNZ, cw_eqZN, cw_eqNZ, cw_ltZN, cw_on, cw_os, cw_c0, cw_c1, cw_c2, cw_c3, cw_c4, cw_c5, cw_c8, cw_c10, cw_c40, cw_c80, cw_c100, cp_144z, cp_140n, cw_mabs, cw_mod8, decide_eq_true_eq, not_false_eq_true, not_true_eq_false, true_and, and_true, false_and, and_false, decide_eq_false_iff_not, Nat.not_lt, Nat.not_le, cw_sub2, cw_nzsub, cw_znsub]
                  exact K2 o _ (by rw [hop, ht]; rfl)
                | true =>
                  have hak2 := ce_tdo_sub hsub ht
                  have hsx := ce_sub_x hsub hak2
                  have hxl := ce_xlt hs (show k < D 0 2 by omega)
                  have g1 := hfin2 _ hxl hsx
                  have g2 := hled _ hxl hsx
                  rw [ce_tdo_x hak2] at g1 g2
                  cases q1 : F (ce_tdo dn all set ^^^ 2 ^ k) with
                  | false =>
                    simp (disch := omega) only [cw_l0, cw_l1, cw_l2, cw_l3, cw_l4, cw_l5, cw_l6, cw_l7, cw_l8, cw_l9, cw_l10, cw_l11, cw_l12, cw_l13, cw_l14, cw_l15, cw_l16, cw_l17, cw_l18, cw_l19, cw_l20, cw_l27, cw_l28, cw_l31, cw_l32, cw_l40, cw_l52, cw_l60, cw_l61, cw_l63, cw_l64, cw_l80, cw_l97, cw_l99, cw_l100, cw_l255, cw_l500, cw_l999, cw_l65536, cd_inN, nI_clamp, nI_add, pk_mul, cw_subc, cw_zz, pk_div, cw_ltN, cw_eqN, cw_tf0, cw_tf1, cw_tfa, cw_bi, cw_bl, cw_bv, if_true, if_false, Bool.false_eq_true, Bool.true_eq_false, ite_self, cw_neg1, cw_m1a, cw_ztl, cw_zeq, cw_zadd, cw_znadd, cw_nzadd, cw_zsub, cw_zmul, cw_znmul, cw_nzmul, cw_ltNZ, cw_eqZN, cw_eqNZ, cw_ltZN, cw_on, cw_os, cw_c0, cw_c1, cw_c2, cw_c3, cw_c4, cw_c5, cw_c8, cw_c10, cw_c40, cw_c80, cw_c100, cp_144z, cp_140n, cw_mabs, cw_mod8, decide_eq_true_eq, not_false_eq_true, not_true_eq_false, true_and, and_true, false_and, and_false, decide_eq_false_iff_not, Nat.not_lt, Nat.not_le, if_pos, if_neg, cw_sh1, cw_xor, g1, q1, cw_nzadd]
                    exact K2 o _ (by rw [hop, ht, q1]; rfl)
                  | true =>
                    cases q2 : ce_gg F (D 0 2) (ce_tdo dn all set ^^^ 2 ^ k) with
                    | false =>
                      simp (disch := omega) only [cw_l0, cw_l1, cw_l2, cw_l3, cw_l4, cw_l5, cw_l6, cw_l7, cw_l8, cw_l9, cw_l10, cw_l11, cw_l12, cw_l13, cw_l14, cw_l15, cw_l16, cw_l17, cw_l18, cw_l19, cw_l20, cw_l27, cw_l28, cw_l31, cw_l32, cw_l40, cw_l52, cw_l60, cw_l61, cw_l63, cw_l64, cw_l80, cw_l97, cw_l99, cw_l100, cw_l255, cw_l500, cw_l999, cw_l65536, cd_inN, nI_clamp, nI_add, pk_mul, cw_subc, cw_zz, pk_div, cw_ltN, cw_eqN, cw_tf0, cw_tf1, cw_tfa, cw_bi, cw_bl, cw_bv, if_true, if_false, Bool.false_eq_true, Bool.true_eq_false, ite_self, cw_neg1, cw_m1a, cw_ztl, cw_zeq, cw_zadd, cw_znadd, cw_nzadd, cw_zsub, cw_zmul, cw_znmul, cw_nzmul, cw_ltNZ, cw_eqZN, cw_eqNZ, cw_ltZN, cw_on, cw_os, cw_c0, cw_c1, cw_c2, cw_c3, cw_c4, cw_c5, cw_c8, cw_c10, cw_c40, cw_c80, cw_c100, cp_144z, cp_140n, cw_mabs, cw_mod8, decide_eq_true_eq, not_false_eq_true, not_true_eq_false, true_and, and_true, false_and, and_false, decide_eq_false_iff_not, Nat.not_lt, Nat.not_le, if_pos, if_neg, cw_sh1, cw_xor, g1, q1, g2, q2]
                      exact K2 o _ (by rw [hop, ht, q1, q2]; rfl)
                    | true =>
                      simp (disch := omega) only [cw_l0, cw_l1, cw_l2, cw_l3, cw_l4, cw_l5, cw_l6, cw_l7, cw_l8, cw_l9, cw_l10, cw_l11, cw_l12, cw_l13, cw_l14, cw_l15, cw_l16, cw_l17, cw_l18, cw_l19, cw_l20, cw_l27, cw_l28, cw_l31, cw_l32, cw_l40, cw_l52, cw_l60, cw_l61, cw_l63, cw_l64, cw_l80, cw_l97, cw_l99, cw_l100, cw_l255, cw_l500, cw_l999, cw_l65536, cd_inN, nI_clamp, nI_add, pk_mul, cw_subc, cw_zz, pk_div, cw_ltN, cw_eqN, cw_tf0, cw_tf1, cw_tfa, cw_bi, cw_bl, cw_bv, if_true, if_false, Bool.false_eq_true, Bool.true_eq_false, ite_self, cw_neg1, cw_m1a, cw_ztl, cw_zeq, cw_zadd, cw_znadd, cw_nzadd, cw_zsub, cw_zmul, cw_znmul, cw_nzmul, cw_ltNZ, cw_eqZN, cw_eqNZ, cw_ltZN, cw_on, cw_os, cw_c0, cw_c1, cw_c2, cw_c3, cw_c4, cw_c5, cw_c8, cw_c10, cw_c40, cw_c80, cw_c100, cp_144z, cp_140n, cw_mabs, cw_mod8, decide_eq_true_eq, not_false_eq_true, not_true_eq_false, true_and, and_true, false_and, and_false, decide_eq_false_iff_not, Nat.not_lt, Nat.not_le, if_pos, if_neg, cw_sh1, cw_xor, g1, q1, g2, q2]
                      exact K2 (some k) _ (by rw [hop, ht, q1, q2]; rfl)
              refine cw_m (fun _ => cd_s228_79) ?_
              cases hd : dn with
              | true =>
                rw [hd, show ce_tdo true all set = set from rfl] at c0 tail
                simp (disch := omega) only [cw_l0, cw_l1, cw_l2, cw_l3, cw_l4, cw_l5, cw_l6, cw_l7, cw_l8, cw_l9, cw_l10, cw_l11, cw_l12, cw_l13, cw_l14, cw_l15, cw_l16, cw_l17, cw_l18, cw_l19, cw_l20, cw_l27, cw_l28, cw_l31, cw_l32, cw_l40, cw_l52, cw_l60, cw_l61, cw_l63, cw_l64, cw_l80, cw_l97, cw_l99, cw_l100, cw_l255, cw_l500, cw_l999, cw_l65536, cd_inN, nI_clamp, nI_add, pk_mul, cw_subc, cw_zz, pk_div, cw_ltN, cw_eqN, cw_tf0, cw_tf1, cw_tfa, cw_bi, cw_bl, cw_bv, if_true, if_false, Bool.false_eq_true, Bool.true_eq_false, ite_self, cw_neg1, cw_m1a, cw_ztl, cw_zeq, cw_zadd, cw_znadd, cw_nzadd, cw_zsub, cw_zmul, cw_znmul, cw_nzmul, cw_ltNZ, cw_eqZN, cw_eqNZ, cw_ltZN, cw_on, cw_os, cw_c0, cw_c1, cw_c2, cw_c3, cw_c4, cw_c5, cw_c8, cw_c10, cw_c40, cw_c80, cw_c100, cp_144z, cp_140n, cw_mabs, cw_mod8, decide_eq_true_eq, not_false_eq_true, not_true_eq_false, true_and, and_true, false_and, and_false, decide_eq_false_iff_not, Nat.not_lt, Nat.not_le, if_pos, if_neg, c0]
                refine cw_m (fun _ => cd_s228_86) ?_
                exact tail
              | false =>
                rw [hd, show ce_tdo false all set = ce_an all set from rfl] at c0 tail
                simp (disch := omega) only [cw_l0, cw_l1, cw_l2, cw_l3, cw_l4, cw_l5, cw_l6, cw_l7, cw_l8, cw_l9, cw_l10, cw_l11, cw_l12, cw_l13, cw_l14, cw_l15, cw_l16, cw_l17, cw_l18, cw_l19, cw_l20, cw_l27, cw_l28, cw_l31, cw_l32, cw_l40, cw_l52, cw_l60, cw_l61, cw_l63, cw_l64, cw_l80, cw_l97, cw_l99, cw_l100, cw_l255, cw_l500, cw_l999, cw_l65536, cd_inN, nI_clamp, nI_add, pk_mul, cw_subc, cw_zz, pk_div, cw_ltN, cw_eqN, cw_tf0, cw_tf1, cw_tfa, cw_bi, cw_bl, cw_bv, if_true, if_false, Bool.false_eq_true, Bool.true_eq_false, ite_self, cw_neg1, cw_m1a, cw_ztl, cw_zeq, cw_zadd, cw_znadd, cw_nzadd, cw_zsub, cw_zmul, cw_znmul, cw_nzmul, cw_ltNZ, cw_eqZN, cw_eqNZ, cw_ltZN, cw_on, cw_os, cw_c0, cw_c1, cw_c2, cw_c3, cw_c4, cw_c5, cw_c8, cw_c10, cw_c40, cw_c80, cw_c100, cp_144z, cp_140n, cw_mabs, cw_mod8, decide_eq_true_eq, not_false_eq_true, not_true_eq_false, true_and, and_true, false_and, and_false, decide_eq_false_iff_not, Nat.not_lt, Nat.not_le, if_pos, if_neg, cw_andn, c0]
                exact tail
      have hs1 : ∃ s1, s1 = (if dn then all else 0) ∧ s1 < 2 ^ D 0 2 ∧ ce_an s1 all = 0 ∧ ce_tdo dn all s1 = all := by
        cases dn with
        | true => exact ⟨all, rfl, hal, ce_an0.mpr (fun k h => h), rfl⟩
        | false => exact ⟨0, rfl, hp0, ce_an0.mpr (fun k h => by rw [Nat.zero_testBit] at h; cases h), by
            show ce_an all 0 = all
            refine Nat.eq_of_testBit_eq (fun k => ?_)
            rw [ce_an_tb, Nat.zero_testBit]
            cases all.testBit k <;> rfl⟩
      obtain ⟨s1, hse, hsl, hssub, hst⟩ := hs1
      have hl := hled s1 hsl hssub
      rw [hst] at hl
      have walk := fun hg => walk hg s1 hsl hssub hst
      have end1 : cw L w (if I2 128 s1 = 0 then some (some (.int (-1)), cd_mm L w I2 J2) else if z = -1 then some (some (.int 1), cd_mm L w I2 J2) else cd_go 228 66 [.ref 100, .int (nI hand), .int (cd_tf dn), .int z, .int (nI all), .int (nI many), .int (nI s1), .int (-1), .int 0, .null, .null] [] (cd_mm L w I2 J2)) (ce_post (.int (if ce_gg F (D 0 2) all = true then if z = -1 then 1 else if ce_ix z many = true then cd_oi (ce_nxt F (D 0 2) (ce_lft F (D 0 2) all z.toNatClampNeg)) else -1 else -1)) D S Y I J2) := by
        cases hg : ce_gg F (D 0 2) all with
        | false =>
          rw [hl, hg, if_pos (show cd_tf false = 0 by decide), if_neg (show ¬ false = true by decide)]
          exact cw_ret ⟨rfl, hM2, hF2⟩
        | true =>
          rw [hl, hg, if_neg (show ¬ cd_tf true = 0 by decide), if_pos rfl]
          by_cases hz : z = -1
          · rw [if_pos hz, if_pos hz]
            exact cw_ret ⟨rfl, hM2, hF2⟩
          · rw [if_neg hz, if_neg hz]
            exact walk hg .null .null
      refine cw_m (fun _ => cd_s228_44) ?_
      cases hd : dn with
      | true =>
        rw [hd, if_pos rfl] at hse
        subst hse
        rw [hd] at end1
        rw [if_neg (show ¬ cd_tf true = 0 by decide), if_pos (cd_inN (by omega) (by decide)), nI_clamp (by omega)]
        exact end1
      | false =>
        rw [hd, if_neg (show ¬ false = true by decide)] at hse
        subst hse
        rw [hd] at end1
        rw [if_pos (show cd_tf false = 0 by decide), if_pos (show cd_in 0 4096 = true by decide)]
        exact end1
    · rw [if_neg hf]
      simp (disch := omega) only [cw_l0, cw_l1, cw_l2, cw_l3, cw_l4, cw_l5, cw_l6, cw_l7, cw_l8, cw_l9, cw_l10, cw_l11, cw_l12, cw_l13, cw_l14, cw_l15, cw_l16, cw_l17, cw_l18, cw_l19, cw_l20, cw_l27, cw_l28, cw_l31, cw_l32, cw_l40, cw_l52, cw_l60, cw_l61, cw_l63, cw_l64, cw_l80, cw_l97, cw_l99, cw_l100, cw_l255, cw_l500, cw_l999, cw_l65536, cd_inN, nI_clamp, nI_add, pk_mul, cw_subc, cw_zz, pk_div, cw_ltN, cw_eqN, cw_tf0, cw_tf1, cw_tfa, cw_bi, cw_bl, cw_bv, if_true, if_false, Bool.false_eq_true, Bool.true_eq_false, ite_self, cw_neg1, cw_m1a, cw_ztl, cw_zeq, cw_zadd, cw_znadd, cw_nzadd, cw_zsub, cw_zmul, cw_znmul, cw_nzmul, cw_ltNZ, cw_eqZN, cw_eqNZ, cw_ltZN, cw_on, cw_os, cw_c0, cw_c1, cw_c2, cw_c3, cw_c4, cw_c5, cw_c8, cw_c10, cw_c40, cw_c80, cw_c100, cp_144z, cp_140n, cw_mabs, cw_mod8, decide_eq_true_eq, not_false_eq_true, not_true_eq_false, true_and, and_true, false_and, and_false, decide_eq_false_iff_not, Nat.not_lt, Nat.not_le, if_pos, if_neg, hM.1.1.2.2.1]
      exact cw_ret ⟨rfl, hM, ce_fC.rf⟩
  · intro i _ hi _ K
    have K := K () trivial
    rw [ce_cnt_s] at K
    have c0 := cp_139n (L := L) (w := w) (I := I) (J := J) (h := S 0 2) (k := i) (by omega) (by omega)
    refine cw_m (fun _ => cd_s228_15) ?_
    simp (disch := omega) only [cw_l0, cw_l1, cw_l2, cw_l3, cw_l4, cw_l5, cw_l6, cw_l7, cw_l8, cw_l9, cw_l10, cw_l11, cw_l12, cw_l13, cw_l14, cw_l15, cw_l16, cw_l17, cw_l18, cw_l19, cw_l20, cw_l27, cw_l28, cw_l31, cw_l32, cw_l40, cw_l52, cw_l60, cw_l61, cw_l63, cw_l64, cw_l80, cw_l97, cw_l99, cw_l100, cw_l255, cw_l500, cw_l999, cw_l65536, cd_inN, nI_clamp, nI_add, pk_mul, cw_subc, cw_zz, pk_div, cw_ltN, cw_eqN, cw_tf0, cw_tf1, cw_tfa, cw_bi, cw_bl, cw_bv, if_true, if_false, Bool.false_eq_true, Bool.true_eq_false, ite_self, cw_neg1, cw_m1a, cw_ztl, cw_zeq, cw_zadd, cw_znadd, cw_nzadd, cw_zsub, cw_zmul, cw_znmul, cw_nzmul, cw_ltNZ, cw_eqZN, cw_eqNZ, cw_ltZN, cw_on, cw_os, cw_c0, cw_c1, cw_c2, cw_c3, cw_c4, cw_c5, cw_c8, cw_c10, cw_c40, cw_c80, cw_c100, cp_144z, cp_140n, cw_mabs, cw_mod8, decide_eq_true_eq, not_false_eq_true, not_true_eq_false, true_and, and_true, false_and, and_false, decide_eq_false_iff_not, Nat.not_lt, Nat.not_le, if_pos, if_neg, hM.1.1.2.2.1, c0]
    refine cw_m (fun _ => cd_s228_23) ?_
    cases hq : (S 0 2).testBit i with
    | false =>
      rw [show cd_held S i = false from hq] at K
      simp (disch := omega) only [cw_l0, cw_l1, cw_l2, cw_l3, cw_l4, cw_l5, cw_l6, cw_l7, cw_l8, cw_l9, cw_l10, cw_l11, cw_l12, cw_l13, cw_l14, cw_l15, cw_l16, cw_l17, cw_l18, cw_l19, cw_l20, cw_l27, cw_l28, cw_l31, cw_l32, cw_l40, cw_l52, cw_l60, cw_l61, cw_l63, cw_l64, cw_l80, cw_l97, cw_l99, cw_l100, cw_l255, cw_l500, cw_l999, cw_l65536, cd_inN, nI_clamp, nI_add, pk_mul, cw_subc, cw_zz, pk_div, cw_ltN, cw_eqN, cw_tf0, cw_tf1, cw_tfa, cw_bi, cw_bl, cw_bv, if_true, if_false, Bool.false_eq_true, Bool.true_eq_false, ite_self, cw_neg1, cw_m1a, cw_ztl, cw_zeq, cw_zadd, cw_znadd, cw_nzadd, cw_zsub, cw_zmul, cw_znmul, cw_nzmul, cw_ltNZ, cw_eqZN, cw_eqNZ, cw_ltZN, cw_on, cw_os, cw_c0, cw_c1, cw_c2, cw_c3, cw_c4, cw_c5, cw_c8, cw_c10, cw_c40, cw_c80, cw_c100, cp_144z, cp_140n, cw_mabs, cw_mod8, decide_eq_true_eq, not_false_eq_true, not_true_eq_false, true_and, and_true, false_and, and_false, decide_eq_false_iff_not, Nat.not_lt, Nat.not_le]
      exact K
    | true =>
      rw [show cd_held S i = true from hq] at K
      simp (disch := omega) only [cw_l0, cw_l1, cw_l2, cw_l3, cw_l4, cw_l5, cw_l6, cw_l7, cw_l8, cw_l9, cw_l10, cw_l11, cw_l12, cw_l13, cw_l14, cw_l15, cw_l16, cw_l17, cw_l18, cw_l19, cw_l20, cw_l27, cw_l28, cw_l31, cw_l32, cw_l40, cw_l52, cw_l60, cw_l61, cw_l63, cw_l64, cw_l80, cw_l97, cw_l99, cw_l100, cw_l255, cw_l500, cw_l999, cw_l65536, cd_inN, nI_clamp, nI_add, pk_mul, cw_subc, cw_zz, pk_div, cw_ltN, cw_eqN, cw_tf0, cw_tf1, cw_tfa, cw_bi, cw_bl, cw_bv, if_true, if_false, Bool.false_eq_true, Bool.true_eq_false, ite_self, cw_neg1, cw_m1a, cw_ztl, cw_zeq, cw_zadd, cw_znadd, cw_nzadd, cw_zsub, cw_zmul, cw_znmul, cw_nzmul, cw_ltNZ, cw_eqZN, cw_eqNZ, cw_ltZN, cw_on, cw_os, cw_c0, cw_c1, cw_c2, cw_c3, cw_c4, cw_c5, cw_c8, cw_c10, cw_c40, cw_c80, cw_c100, cp_144z, cp_140n, cw_mabs, cw_mod8, decide_eq_true_eq, not_false_eq_true, not_true_eq_false, true_and, and_true, false_and, and_false, decide_eq_false_iff_not, Nat.not_lt, Nat.not_le]
      exact K
end CFA
