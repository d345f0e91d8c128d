/-! ===== the reference: orders ===== -/
/-- the first holds of a, as many as there are hands: the set, the hands left -/
def ce_hnds (a m : Nat) : Nat → Nat × Nat
  | 0 => (0, m)
  | k + 1 => if a.testBit k && decide (0 < (ce_hnds a m k).2) then ((ce_hnds a m k).1 + 2 ^ k, (ce_hnds a m k).2 - 1) else ce_hnds a m k
theorem ce_hnds_b (a m : Nat) : ∀ k, (ce_hnds a m k).1 < 2 ^ k ∧ (ce_hnds a m k).2 ≤ m := by
  intro k
  induction k with
  | zero => exact ⟨Nat.one_pos, Nat.le_refl _⟩
  | succ k ih =>
    unfold ce_hnds
    rw [Nat.pow_succ]
    split
    · dsimp only; omega
    · omega
/-- the hands over what is not put up -/
def ce_hn (D : cd_D) (all set m : Nat) : Nat := (ce_hnds (ce_an all set) m (D 0 2)).1
def ce_swS (D : cd_D) (S : cd_S) (all m set : Nat) : cd_S := ce_sH S (ce_msk (fun k => (set ||| ce_hn D all set m).testBit k) (D 0 2))
/-- it stands by set, the first others in hands -/
def ce_sw (D : cd_D) (S : cd_S) (all m set : Nat) : Bool := (ce_next D (ce_eff (ce_swS D S all m set) (ce_hn D all set m)) none 0).isNone
section CEY
variable {L : Nat} {w : Bool} {I : Nat → Nat → Int32} {J : Nat → Nat → Int64} {D : cd_D} {S : cd_S}
variable {Y : ce_Y} {T : cd_S}
theorem cp_225 (hK : ce_ok D S Y) (hM : ce_M D S Y I) {I1 : Nat → Nat → Int32} (hT : cd_refS D T I1) (hT1 : ∀ t, t < D 0 0 → T 1 t = S 1 t) (hT0 : T 0 1 = S 0 1) (hT2 : ∀ r k, 2 ≤ r → T r k = S r k) (t1 : ce_t3 D S T I I1) {set all m : Nat} (hs : set < 2 ^ D 0 2) (ha : all < 2 ^ D 0 2) (hm : m < 100) : cw L w (cd_c 225 [.ref 100, .int (nI set), .int (nI all), .int (nI m)] (cd_mm L w I1 J)) (fun v I2 J2 => v = some (.int (cd_tf (ce_sw D S all m set))) ∧ J2 = J ∧ ce_t3 D S (ce_swS D S all m set) I I2 ∧ (∀ a k, ¬ (a = 112 ∨ 117 ≤ a ∧ a ≤ 119 ∨ a = 100 ∧ (k = 38 ∨ k = 39)) → I2 a k = I1 a k) ∧ I2 100 38 = nI 0) := by
  have h8 := hK.1.1.1
  have h12 := hK.1.1.2.2.1
  have h2p := ce_pw h12
  have hR1 := t1.R hM.1
  have hal := ce_an_le all set
  refine cw_c (l := [_, _, _, _, _, _, _]) rfl rfl ?_
  refine cw_m (fun _ => cd_s225_0) ?_
  refine cw_up (fun k (s : (Nat → Nat → Int32) × Value) => cd_go 225 7 [.ref 100, .int (nI set), .int (nI all), .int (nI m), .int (nI (ce_hnds (ce_an all set) m k).2), .int (nI k), s.2] [] (cd_mm L w s.1 J)) (fun k s => (∀ a j, ¬ (a = 100 ∧ j = 38) → s.1 a j = I1 a j) ∧ s.1 100 38 = nI (ce_hnds (ce_an all set) m k).1) (D 0 2) ?_ ?_ 0 (cd_up I1 100 38 0, .null) (by omega) ⟨fun a j h => cd_up_k2 h, (show cd_up I1 100 38 0 100 38 = nI 0 from cd_up_s)⟩
  · intro ⟨I2, u⟩ ⟨f2, q2⟩
    replace f2 : ∀ a j, ¬ (a = 100 ∧ j = 38) → I2 a j = I1 a j := f2
    replace q2 : I2 100 38 = nI (ce_hn D all set m) := q2
    have hb := (ce_hnds_b (ce_an all set) m (D 0 2)).1
    have hhb : ce_hn D all set m < 2 ^ D 0 2 := hb
    have hor := ce_or_lt hs hhb
    have hR2 : cd_refD D I2 := hR1.of (fun a k h1 h2 => f2 a k (by omega))
    refine cw_m (fun _ => cd_s225_7) ?_
    simp (disch := omega) only [cw_l0, cw_l1, cw_l2, cw_l3, cw_l4, cw_l5, cw_l6, cw_l7, cw_l8, cw_l9, cw_l10, cw_l11, cw_l12, cw_l13, cw_l14, cw_l15, cw_l16, cw_l17, cw_l18, cw_l19, cw_l20, cw_l27, cw_l28, cw_l31, cw_l32, cw_l40, cw_l52, cw_l60, cw_l61, cw_l63, cw_l64, cw_l80, cw_l97, cw_l99, cw_l100, cw_l255, cw_l500, cw_l999, cw_l65536, cd_inN, nI_clamp, nI_add, pk_mul, cw_subc, cw_zz, pk_div, cw_ltN, cw_eqN, cw_tf0, cw_tf1, cw_tfa, cw_bi, cw_bl, cw_bv, if_true, if_false, Bool.false_eq_true, Bool.true_eq_false, ite_self, cw_neg1, cw_m1a, cw_ztl, cw_zeq, cw_zadd, cw_znadd, cw_nzadd, cw_zsub, cw_zmul, cw_znmul, cw_nzmul, cw_ltNZ, cw_eqZN, cw_eqNZ, cw_ltZN, cw_on, cw_os, cw_c0, cw_c1, cw_c2, cw_c3, cw_c4, cw_c5, cw_c8, cw_c10, cw_c40, cw_c80, cw_c100, cp_144z, cp_140n, cw_mabs, cw_mod8, decide_eq_true_eq, not_false_eq_true, not_true_eq_false, true_and, and_true, false_and, and_false, decide_eq_false_iff_not, Nat.not_lt, Nat.not_le, if_pos, if_neg, hR2.1.2.2.1]
    refine cw_up (fun k (I3 : Nat → Nat → Int32) => cd_go 225 49 [.ref 100, .int (nI set), .int (nI all), .int (nI m), .int (nI (ce_hnds (ce_an all set) m (D 0 2)).2), .int (nI k), u] [] (cd_mm L w I3 J)) (fun k I3 => (∀ a j, a ≠ 112 → I3 a j = I2 a j) ∧ ∀ j, j < k → I3 112 j = cd_tf ((set ||| ce_hn D all set m).testBit j)) (D 0 2) ?_ ?_ 0 I2 (by omega) ⟨fun _ _ _ => rfl, fun j hj => by omega⟩
    · intro I3 ⟨f3, a3⟩
      have f13 : ∀ a j, ¬ (a = 112 ∨ a = 100 ∧ j = 38) → I3 a j = I1 a j := fun a j h => by rw [f3 a j (by omega), f2 a j (by omega)]
      have hR3 : cd_refD D I3 := hR2.of (fun a k h1 h2 => f3 a k (by omega))
      have hT3 : cd_refS D (ce_swS D S all m set) I3 := by
        refine ⟨fun t ht => ?_, fun k hk => ?_⟩
        · rw [f13 _ _ (by omega), f13 _ _ (by omega)]
          have := hT.1 t ht
          rw [hT1 t ht, hT0] at this
          exact this
        · obtain ⟨x1, x2, -⟩ := hT.2 k hk
          rw [hT2 _ _ (by decide)] at x1 x2
          rw [f13 _ _ (by omega), f13 _ _ (by omega), a3 k hk]
          refine ⟨x1, x2, ?_⟩
          show _ = cd_tf ((ce_msk (fun k => (set ||| ce_hn D all set m).testBit k) (D 0 2)).testBit k)
          rw [ce_msk_tb, decide_eq_true hk, Bool.true_and]
      have hS3 : cd_okS D (ce_swS D S all m set) := ⟨hK.2.1.1.1, hK.2.1.1.2.1, ce_msk_lt _ _, hK.2.1.1.2.2.2⟩
      refine cw_m (fun _ => cd_s225_49) ?_
      simp (disch := omega) only [cw_l0, cw_l1, cw_l2, cw_l3, cw_l4, cw_l5, cw_l6, cw_l7, cw_l8, cw_l9, cw_l10, cw_l11, cw_l12, cw_l13, cw_l14, cw_l15, cw_l16, cw_l17, cw_l18, cw_l19, cw_l20, cw_l27, cw_l28, cw_l31, cw_l32, cw_l40, cw_l52, cw_l60, cw_l61, cw_l63, cw_l64, cw_l80, cw_l97, cw_l99, cw_l100, cw_l255, cw_l500, cw_l999, cw_l65536, cd_inN, nI_clamp, nI_add, pk_mul, cw_subc, cw_zz, pk_div, cw_ltN, cw_eqN, cw_tf0, cw_tf1, cw_tfa, cw_bi, cw_bl, cw_bv, if_true, if_false, Bool.false_eq_true, Bool.true_eq_false, ite_self, cw_neg1, cw_m1a, cw_ztl, cw_zeq, cw_zadd, cw_znadd, cw_nzadd, cw_zsub, cw_zmul, cw_znmul, cw_nzmul, cw_ltNZ, cw_eqZN, cw_eqNZ, cw_ltZN, cw_on, cw_os, cw_c0, cw_c1, cw_c2, cw_c3, cw_c4, cw_c5, cw_c8, cw_c10, cw_c40, cw_c80, cw_c100, cp_144z, cp_140n, cw_mabs, cw_mod8, decide_eq_true_eq, not_false_eq_true, not_true_eq_false, true_and, and_true, false_and, and_false, decide_eq_false_iff_not, Nat.not_lt, Nat.not_le, if_pos, if_neg, hR3.1.2.2.1]
      refine cw_ci (cw_mono (cp_193 hK.1 hS3 hR3 hT3 (h := ce_hn D all set m) (by rw [f3 _ _ (by decide)]; exact q2) (by omega) (o := none) (b := 0) (by decide) (fun t q => by cases q)) ?_)
      intro v I4 J4 ⟨hv, hJ, f4, _⟩
      subst hv hJ
      refine ⟨_, rfl, ?_⟩
      have f14 : ∀ a k, ¬ (a = 112 ∨ 117 ≤ a ∧ a ≤ 119 ∨ a = 100 ∧ (k = 38 ∨ k = 39)) → cd_up I4 100 38 (nI 0) a k = I1 a k := fun a k h => by
        rw [cd_up_k2 (by omega), f4 a k (by omega) (by omega)]; exact f13 a k (by omega)
      have h38 : I1 100 38 = nI 0 := t1.H hM.2.2.1
      have t4 : ce_t3 D S (ce_swS D S all m set) I (cd_up I4 100 38 (nI 0)) := ⟨fun a k hk => by
        by_cases h38k : a = 100 ∧ k = 38
        · obtain ⟨rfl, rfl⟩ := h38k
          rw [cd_up_s, hM.2.2.1]
        · rw [f14 a k (by unfold ce_sc2 ce_scr at hk; omega)]; exact t1.1 a k hk, hT3.of (fun a k h => by rw [cd_up_a (by omega)]; exact f4 a k (by omega) (by omega)), t1.2.2.of (fun k _ => f14 _ _ (by omega)) h8 h12⟩
      have g := ce_nx0 (fun e h => ce_next3 (D := D) (S := ce_eff (ce_swS D S all m set) (ce_hn D all set m)) (o := none) (b := 0) (e := e) h)
      unfold ce_sw
      refine cw_m (fun _ => cd_s225_69) ?_
      simp (disch := omega) only [cw_l0, cw_l1, cw_l2, cw_l3, cw_l4, cw_l5, cw_l6, cw_l7, cw_l8, cw_l9, cw_l10, cw_l11, cw_l12, cw_l13, cw_l14, cw_l15, cw_l16, cw_l17, cw_l18, cw_l19, cw_l20, cw_l27, cw_l28, cw_l31, cw_l32, cw_l40, cw_l52, cw_l60, cw_l61, cw_l63, cw_l64, cw_l80, cw_l97, cw_l99, cw_l100, cw_l255, cw_l500, cw_l999, cw_l65536, cd_inN, nI_clamp, nI_add, pk_mul, cw_subc, cw_zz, pk_div, cw_ltN, cw_eqN, cw_tf0, cw_tf1, cw_tfa, cw_bi, cw_bl, cw_bv, if_true, if_false, Bool.false_eq_true, Bool.true_eq_false, ite_self, cw_neg1, cw_m1a, cw_ztl, cw_zeq, cw_zadd, cw_znadd, cw_nzadd, cw_zsub, cw_zmul, cw_znmul, cw_nzmul, cw_ltNZ, cw_eqZN, cw_eqNZ, cw_ltZN, cw_on, cw_os, cw_c0, cw_c1, cw_c2, cw_c3, cw_c4, cw_c5, cw_c8, cw_c10, cw_c40, cw_c80, cw_c100, cp_144z, cp_140n, cw_mabs, cw_mod8, decide_eq_true_eq, not_false_eq_true, not_true_eq_false, true_and, and_true, false_and, and_false, decide_eq_false_iff_not, Nat.not_lt, Nat.not_le, g]
      cases ce_next D (ce_eff (ce_swS D S all m set) (ce_hn D all set m)) none 0 with
      | none => exact cw_ret ⟨rfl, rfl, t4, f14, cd_up_s⟩
      | some e => exact cw_ret ⟨rfl, rfl, t4, f14, cd_up_s⟩
    · intro k I3 hk ⟨f3, a3⟩ K
      have hR3 : cd_refD D I3 := hR2.of (fun a k h1 h2 => f3 a k (by omega))
      have g38 : I3 100 38 = nI (ce_hn D all set m) := by rw [f3 _ _ (by decide)]; exact q2
      have c0 := cp_139n (L := L) (w := w) (I := I3) (J := J) (h := set ||| ce_hn D all set m) (k := k) (by omega) (by omega)
      refine cw_m (fun _ => cd_s225_49) ?_
      simp (disch := omega) only [cw_l0, cw_l1, cw_l2, cw_l3, cw_l4, cw_l5, cw_l6, cw_l7, cw_l8, cw_l9, cw_l10, cw_l11, cw_l12, cw_l13, cw_l14, cw_l15, cw_l16, cw_l17, cw_l18, cw_l19, cw_l20, cw_l27, cw_l28, cw_l31, cw_l32, cw_l40, cw_l52, cw_l60, cw_l61, cw_l63, cw_l64, cw_l80, cw_l97, cw_l99, cw_l100, cw_l255, cw_l500, cw_l999, cw_l65536, cd_inN, nI_clamp, nI_add, pk_mul, cw_subc, cw_zz, pk_div, cw_ltN, cw_eqN, cw_tf0, cw_tf1, cw_tfa, cw_bi, cw_bl, cw_bv, if_true, if_false, Bool.false_eq_true, Bool.true_eq_false, ite_self, cw_neg1, cw_m1a, cw_ztl, cw_zeq, cw_zadd, cw_znadd, cw_nzadd, cw_zsub, cw_zmul, cw_znmul, cw_nzmul, cw_ltNZ, cw_eqZN, cw_eqNZ, cw_ltZN, cw_on, cw_os, cw_c0, cw_c1, cw_c2, cw_c3, cw_c4, cw_c5, cw_c8, cw_c10, cw_c40, cw_c80, cw_c100, cp_144z, cp_140n, cw_mabs, cw_mod8, decide_eq_true_eq, not_false_eq_true, not_true_eq_false, true_and, and_true, false_and, and_false, decide_eq_false_iff_not, Nat.not_lt, Nat.not_le, if_pos, if_neg, hR3.1.2.2.1, g38, cw_or, c0]
      refine cw_m (fun _ => cd_s225_62) ?_
      simp (disch := omega) only [cw_l0, cw_l1, cw_l2, cw_l3, cw_l4, cw_l5, cw_l6, cw_l7, cw_l8, cw_l9, cw_l10, cw_l11, cw_l12, cw_l13, cw_l14, cw_l15, cw_l16, cw_l17, cw_l18, cw_l19, cw_l20, cw_l27, cw_l28, cw_l31, cw_l32, cw_l40, cw_l52, cw_l60, cw_l61, cw_l63, cw_l64, cw_l80, cw_l97, cw_l99, cw_l100, cw_l255, cw_l500, cw_l999, cw_l65536, cd_inN, nI_clamp, nI_add, pk_mul, cw_subc, cw_zz, pk_div, cw_ltN, cw_eqN, cw_tf0, cw_tf1, cw_tfa, cw_bi, cw_bl, cw_bv, if_true, if_false, Bool.false_eq_true, Bool.true_eq_false, ite_self, cw_neg1, cw_m1a, cw_ztl, cw_zeq, cw_zadd, cw_znadd, cw_nzadd, cw_zsub, cw_zmul, cw_znmul, cw_nzmul, cw_ltNZ, cw_eqZN, cw_eqNZ, cw_ltZN, cw_on, cw_os, cw_c0, cw_c1, cw_c2, cw_c3, cw_c4, cw_c5, cw_c8, cw_c10, cw_c40, cw_c80, cw_c100, cp_144z, cp_140n, cw_mabs, cw_mod8, decide_eq_true_eq, not_false_eq_true, not_true_eq_false, true_and, and_true, false_and, and_false, decide_eq_false_iff_not, Nat.not_lt, Nat.not_le]
      exact K _ ⟨fun a j h => by rw [cd_up_a h]; exact f3 a j h, fun j hj => by
        by_cases hjk : j = k
        · rw [hjk, cd_up_s]
        · rw [cd_up_k hjk]; exact a3 j (by omega)⟩
  · intro k ⟨I2, u⟩ hk ⟨f2, q2⟩ K
    replace f2 : ∀ a j, ¬ (a = 100 ∧ j = 38) → I2 a j = I1 a j := f2
    replace q2 : I2 100 38 = nI (ce_hnds (ce_an all set) m k).1 := q2
    have hR2 : cd_refD D I2 := hR1.of (fun a k h1 h2 => f2 a k (by omega))
    have c0 := cp_139n (L := L) (w := w) (I := I2) (J := J) (h := ce_an all set) (k := k) (by omega) (by omega)
    obtain ⟨hb1, hb2⟩ := ce_hnds_b (ce_an all set) m k
    unfold ce_hnds at K
    have no : ∀ u, (Nat.testBit (ce_an all set) k && decide (0 < (ce_hnds (ce_an all set) m k).2)) = false → cw L w (cd_go 225 23 [.ref 100, .int (nI set), .int (nI all), .int (nI m), .int (nI (ce_hnds (ce_an all set) m k).2), .int (nI k), u] [] (cd_mm L w I2 J)) _ := fun u hf => by
      have K := K (cd_up I2 100 38 (nI (ce_hnds (ce_an all set) m k).1), .int (nI 0))
      simp only [hf, Bool.false_eq_true, if_false] at K
      refine cw_m (fun _ => cd_s225_23) ?_
      simp (disch := omega) only [cw_l0, cw_l1, cw_l2, cw_l3, cw_l4, cw_l5, cw_l6, cw_l7, cw_l8, cw_l9, cw_l10, cw_l11, cw_l12, cw_l13, cw_l14, cw_l15, cw_l16, cw_l17, cw_l18, cw_l19, cw_l20, cw_l27, cw_l28, cw_l31, cw_l32, cw_l40, cw_l52, cw_l60, cw_l61, cw_l63, cw_l64, cw_l80, cw_l97, cw_l99, cw_l100, cw_l255, cw_l500, cw_l999, cw_l65536, cd_inN, nI_clamp, nI_add, pk_mul, cw_subc, cw_zz, pk_div, cw_ltN, cw_eqN, cw_tf0, cw_tf1, cw_tfa, cw_bi, cw_bl, cw_bv, if_true, if_false, Bool.false_eq_true, Bool.true_eq_false, ite_self, cw_neg1, cw_m1a, cw_ztl, cw_zeq, cw_zadd, cw_znadd, cw_nzadd, cw_zsub, cw_zmul, cw_znmul, cw_nzmul, cw_ltNZ, cw_eqZN, cw_eqNZ, cw_ltZN, cw_on, cw_os, cw_c0, cw_c1, cw_c2, cw_c3, cw_c4, cw_c5, cw_c8, cw_c10, cw_c40, cw_c80, cw_c100, cp_144z, cp_140n, cw_mabs, cw_mod8, decide_eq_true_eq, not_false_eq_true, not_true_eq_false, true_and, and_true, false_and, and_false, decide_eq_false_iff_not, Nat.not_lt, Nat.not_le, q2, cw_or, Nat.or_zero, Nat.sub_zero]
      exact K ⟨fun a j h => by rw [cd_up_k2 h]; exact f2 a j h, cd_up_s⟩
    refine cw_m (fun _ => cd_s225_7) ?_
    simp (disch := omega) only [cw_l0, cw_l1, cw_l2, cw_l3, cw_l4, cw_l5, cw_l6, cw_l7, cw_l8, cw_l9, cw_l10, cw_l11, cw_l12, cw_l13, cw_l14, cw_l15, cw_l16, cw_l17, cw_l18, cw_l19, cw_l20, cw_l27, cw_l28, cw_l31, cw_l32, cw_l40, cw_l52, cw_l60, cw_l61, cw_l63, cw_l64, cw_l80, cw_l97, cw_l99, cw_l100, cw_l255, cw_l500, cw_l999, cw_l65536, cd_inN, nI_clamp, nI_add, pk_mul, cw_subc, cw_zz, pk_div, cw_ltN, cw_eqN, cw_tf0, cw_tf1, cw_tfa, cw_bi, cw_bl, cw_bv, if_true, if_false, Bool.false_eq_true, Bool.true_eq_false, ite_self, cw_neg1, cw_m1a, cw_ztl, cw_zeq, cw_zadd, cw_znadd, cw_nzadd, cw_zsub, cw_zmul, cw_znmul, cw_nzmul, cw_ltNZ, cw_eqZN, cw_eqNZ, cw_ltZN, cw_on, cw_os, cw_c0, cw_c1, cw_c2, cw_c3, cw_c4, cw_c5, cw_c8, cw_c10, cw_c40, cw_c80, cw_c100, cp_144z, cp_140n, cw_mabs, cw_mod8, decide_eq_true_eq, not_false_eq_true, not_true_eq_false, true_and, and_true, false_and, and_false, decide_eq_false_iff_not, Nat.not_lt, Nat.not_le, if_pos, if_neg, hR2.1.2.2.1, cw_andn, c0]
    refine cw_m (fun _ => cd_s225_18) ?_
    cases hq : Nat.testBit (ce_an all set) k with
    | false =>
      simp (disch := omega) only [cw_l0, cw_l1, cw_l2, cw_l3, cw_l4, cw_l5, cw_l6, cw_l7, cw_l8, cw_l9, cw_l10, cw_l11, cw_l12, cw_l13, cw_l14, cw_l15, cw_l16, cw_l17, cw_l18, cw_l19, cw_l20, cw_l27, cw_l28, cw_l31, cw_l32, cw_l40, cw_l52, cw_l60, cw_l61, cw_l63, cw_l64, cw_l80, cw_l97, cw_l99, cw_l100, cw_l255, cw_l500, cw_l999, cw_l65536, cd_inN, nI_clamp, nI_add, pk_mul, cw_subc, cw_zz, pk_div, cw_ltN, cw_eqN, cw_tf0, cw_tf1, cw_tfa, cw_bi, cw_bl, cw_bv, if_true, if_false, Bool.false_eq_true, Bool.true_eq_false, ite_self, cw_neg1, cw_m1a, cw_ztl, cw_zeq, cw_zadd, cw_znadd, cw_nzadd, cw_zsub, cw_zmul, cw_znmul, cw_nzmul, cw_ltNZ, cw_eqZN, cw_eqNZ, cw_ltZN, cw_on, cw_os, cw_c0, cw_c1, cw_c2, cw_c3, cw_c4, cw_c5, cw_c8, cw_c10, cw_c40, cw_c80, cw_c100, cp_144z, cp_140n, cw_mabs, cw_mod8, decide_eq_true_eq, not_false_eq_true, not_true_eq_false, true_and, and_true, false_and, and_false, decide_eq_false_iff_not, Nat.not_lt, Nat.not_le]
      exact no u (by rw [hq]; rfl)
    | true =>
      by_cases h0 : 0 < (ce_hnds (ce_an all set) m k).2
      · have K := K (cd_up I2 100 38 (nI ((ce_hnds (ce_an all set) m k).1 + 2 ^ k)), .int (nI 1))
        simp only [hq, decide_eq_true h0, Bool.true_and, if_true] at K
        have e1 : (ce_hnds (ce_an all set) m k).1 ||| 2 ^ k = (ce_hnds (ce_an all set) m k).1 + 2 ^ k := by
          have := Nat.two_pow_add_eq_or_of_lt hb1 1
          rw [Nat.mul_one] at this
          rw [Nat.or_comm, ← this, Nat.add_comm]
        simp (disch := omega) only [cw_l0, cw_l1, cw_l2, cw_l3, cw_l4, cw_l5, cw_l6, cw_l7, cw_l8, cw_l9, cw_l10, cw_l11, cw_l12, cw_l13, cw_l14, cw_l15, cw_l16, cw_l17, cw_l18, cw_l19, cw_l20, cw_l27, cw_l28, cw_l31, cw_l32, cw_l40, cw_l52, cw_l60, cw_l61, cw_l63, cw_l64, cw_l80, cw_l97, cw_l99, cw_l100, cw_l255, cw_l500, cw_l999, cw_l65536, cd_inN, nI_clamp, nI_add, pk_mul, cw_subc, cw_zz, pk_div, cw_ltN, cw_eqN, cw_tf0, cw_tf1, cw_tfa, cw_bi, cw_bl, cw_bv, if_true, if_false, Bool.false_eq_true, Bool.true_eq_false, ite_self, cw_neg1, cw_m1a, cw_ztl, cw_zeq, cw_zadd, cw_znadd, cw_nzadd, cw_zsub, cw_zmul, cw_znmul, cw_nzmul, cw_ltNZ, cw_eqZN, cw_eqNZ, cw_ltZN, cw_on, cw_os, cw_c0, cw_c1, cw_c2, cw_c3, cw_c4, cw_c5, cw_c8, cw_c10, cw_c40, cw_c80, cw_c100, cp_144z, cp_140n, cw_mabs, cw_mod8, decide_eq_true_eq, not_false_eq_true, not_true_eq_false, true_and, and_true, false_and, and_false, decide_eq_false_iff_not, Nat.not_lt, Nat.not_le, if_pos, if_neg, q2, cw_sh1, cw_or, e1]
        exact K ⟨fun a j h => by rw [cd_up_k2 h]; exact f2 a j h, cd_up_s⟩
      · simp (disch := omega) only [cw_l0, cw_l1, cw_l2, cw_l3, cw_l4, cw_l5, cw_l6, cw_l7, cw_l8, cw_l9, cw_l10, cw_l11, cw_l12, cw_l13, cw_l14, cw_l15, cw_l16, cw_l17, cw_l18, cw_l19, cw_l20, cw_l27, cw_l28, cw_l31, cw_l32, cw_l40, cw_l52, cw_l60, cw_l61, cw_l63, cw_l64, cw_l80, cw_l97, cw_l99, cw_l100, cw_l255, cw_l500, cw_l999, cw_l65536, cd_inN, nI_clamp, nI_add, pk_mul, cw_subc, cw_zz, pk_div, cw_ltN, cw_eqN, cw_tf0, cw_tf1, cw_tfa, cw_bi, cw_bl, cw_bv, if_true, if_false, Bool.false_eq_true, Bool.true_eq_false, ite_self, cw_neg1, cw_m1a, cw_ztl, cw_zeq, cw_zadd, cw_znadd, cw_nzadd, cw_zsub, cw_zmul, cw_znmul, cw_nzmul, cw_ltNZ, cw_eqZN, cw_eqNZ, cw_ltZN, cw_on, cw_os, cw_c0, cw_c1, cw_c2, cw_c3, cw_c4, cw_c5, cw_c8, cw_c10, cw_c40, cw_c80, cw_c100, cp_144z, cp_140n, cw_mabs, cw_mod8, decide_eq_true_eq, not_false_eq_true, not_true_eq_false, true_and, and_true, false_and, and_false, decide_eq_false_iff_not, Nat.not_lt, Nat.not_le, if_pos, if_neg]
        exact no u (by rw [hq, decide_eq_false h0]; rfl)
/-- how the tried sets stand -/
def ce_fin (D : cd_D) (S : cd_S) (all m : Nat) (I : Nat → Nat → Int32) : Prop := ∀ set, set < 2 ^ D 0 2 → ce_an set all = 0 → I 127 set = cd_tf (ce_sw D S all m set)
theorem cp_226 (hK : ce_ok D S Y) (hM : ce_M D S Y I) {all m : Nat} (ha : all < 2 ^ D 0 2) (hm : m < 100) : cw L w (cd_c 226 [.ref 100, .int (nI all), .int (nI m)] (cd_mm L w I J)) (fun v I1 J1 => v = none ∧ J1 = J ∧ ce_t2 D S I I1 ∧ ce_fin D S all m I1) := by
  have h8 := hK.1.1.1
  have h12 := hK.1.1.2.2.1
  have h2p := ce_pw h12
  refine cw_c (l := [_, _, _, _]) rfl rfl ?_
  refine cw_m (fun _ => cd_s226_0) ?_
  refine cw_cv (cw_mono (cp_216t hK hM) ?_)
  intro v I0 J0 ⟨hv, hJ, t0, hs0⟩
  subst hv hJ
  refine ⟨rfl, ?_⟩
  refine cw_m (fun _ => cd_s226_3) ?_
  refine cw_up (fun set (I1 : Nat → Nat → Int32) => cd_go 226 5 [.ref 100, .int (nI all), .int (nI m), .int (nI set)] [] (cd_mm L w I1 J0)) (fun set I1 => (∃ T, cd_refS D T I1 ∧ (∀ t, t < D 0 0 → T 1 t = S 1 t) ∧ T 0 1 = S 0 1 ∧ (∀ r k, 2 ≤ r → T r k = S r k) ∧ ce_t3 D S T I I1) ∧ ∀ s, s < set → ce_an s all = 0 → I1 127 s = cd_tf (ce_sw D S all m s)) (2 ^ D 0 2) ?_ ?_ 0 I0 (by omega) ⟨⟨S, t0.2.1, fun _ _ => rfl, rfl, fun _ _ _ => rfl, t0⟩, fun s hs => by omega⟩
  · intro I1 ⟨⟨T, hT, hT1, hT0, hT2, t1⟩, a1⟩
    have hR1 := t1.R hM.1
    refine cw_m (fun _ => cd_s226_5) ?_
    simp (disch := omega) only [cw_l0, cw_l1, cw_l2, cw_l3, cw_l4, cw_l5, cw_l6, cw_l7, cw_l8, cw_l9, cw_l10, cw_l11, cw_l12, cw_l13, cw_l14, cw_l15, cw_l16, cw_l17, cw_l18, cw_l19, cw_l20, cw_l27, cw_l28, cw_l31, cw_l32, cw_l40, cw_l52, cw_l60, cw_l61, cw_l63, cw_l64, cw_l80, cw_l97, cw_l99, cw_l100, cw_l255, cw_l500, cw_l999, cw_l65536, cd_inN, nI_clamp, nI_add, pk_mul, cw_subc, cw_zz, pk_div, cw_ltN, cw_eqN, cw_tf0, cw_tf1, cw_tfa, cw_bi, cw_bl, cw_bv, if_true, if_false, Bool.false_eq_true, Bool.true_eq_false, ite_self, cw_neg1, cw_m1a, cw_ztl, cw_zeq, cw_zadd, cw_znadd, cw_nzadd, cw_zsub, cw_zmul, cw_znmul, cw_nzmul, cw_ltNZ, cw_eqZN, cw_eqNZ, cw_ltZN, cw_on, cw_os, cw_c0, cw_c1, cw_c2, cw_c3, cw_c4, cw_c5, cw_c8, cw_c10, cw_c40, cw_c80, cw_c100, cp_144z, cp_140n, cw_mabs, cw_mod8, decide_eq_true_eq, not_false_eq_true, not_true_eq_false, true_and, and_true, false_and, and_false, decide_eq_false_iff_not, Nat.not_lt, Nat.not_le, if_pos, if_neg, hR1.1.2.2.1, cw_sh1]
    refine cw_cv (cw_mono (cp_217t hK.1 t1) ?_)
    intro v I2 J2 ⟨hv, hJ, t2, s2, g2⟩
    subst hv hJ
    refine ⟨rfl, ?_⟩
    refine cw_m (fun _ => cd_s226_31) ?_
    exact cw_ret ⟨rfl, rfl, ⟨t2.1, t2.2.1, s2, t2.2.2⟩, fun s hs hsz => (g2 127 s (by omega)).trans (a1 s hs hsz)⟩
  · intro set I1 hset ⟨⟨T, hT, hT1, hT0, hT2, t1⟩, a1⟩ K
    have hR1 := t1.R hM.1
    have hal := ce_an_le set all
    refine cw_m (fun _ => cd_s226_5) ?_
    by_cases hz : ce_an set all = 0
    · simp (disch := omega) only [cw_l0, cw_l1, cw_l2, cw_l3, cw_l4, cw_l5, cw_l6, cw_l7, cw_l8, cw_l9, cw_l10, cw_l11, cw_l12, cw_l13, cw_l14, cw_l15, cw_l16, cw_l17, cw_l18, cw_l19, cw_l20, cw_l27, cw_l28, cw_l31, cw_l32, cw_l40, cw_l52, cw_l60, cw_l61, cw_l63, cw_l64, cw_l80, cw_l97, cw_l99, cw_l100, cw_l255, cw_l500, cw_l999, cw_l65536, cd_inN, nI_clamp, nI_add, pk_mul, cw_subc, cw_zz, pk_div, cw_ltN, cw_eqN, cw_tf0, cw_tf1, cw_tfa, cw_bi, cw_bl, cw_bv, if_true, if_false, Bool.false_eq_true, Bool.true_eq_false, ite_self, cw_neg1, cw_m1a, cw_ztl, cw_zeq, cw_zadd, cw_znadd, cw_nzadd, cw_zsub, cw_zmul, cw_znmul, cw_nzmul, cw_ltNZ, cw_eqZN, cw_eqNZ, cw_ltZN, cw_on, cw_os, cw_c0, cw_c1, cw_c2, cw_c3, cw_c4, cw_c5, cw_c8, cw_c10, cw_c40, cw_c80, cw_c100, cp_144z, cp_140n, cw_mabs, cw_mod8, decide_eq_true_eq, not_false_eq_true, not_true_eq_false, true_and, and_true, false_and, and_false, decide_eq_false_iff_not, Nat.not_lt, Nat.not_le, if_pos, if_neg, hR1.1.2.2.1, cw_sh1, cw_andn]
      refine cw_ci (cw_mono (cp_225 hK hM hT hT1 hT0 hT2 t1 hset ha hm) ?_)
      intro v I2 J2 ⟨hv, hJ, t2, f2, h38⟩
      subst hv hJ
      refine ⟨_, rfl, ?_⟩
      refine cw_m (fun _ => cd_s226_25) ?_
      simp (disch := omega) only [cw_l0, cw_l1, cw_l2, cw_l3, cw_l4, cw_l5, cw_l6, cw_l7, cw_l8, cw_l9, cw_l10, cw_l11, cw_l12, cw_l13, cw_l14, cw_l15, cw_l16, cw_l17, cw_l18, cw_l19, cw_l20, cw_l27, cw_l28, cw_l31, cw_l32, cw_l40, cw_l52, cw_l60, cw_l61, cw_l63, cw_l64, cw_l80, cw_l97, cw_l99, cw_l100, cw_l255, cw_l500, cw_l999, cw_l65536, cd_inN, nI_clamp, nI_add, pk_mul, cw_subc, cw_zz, pk_div, cw_ltN, cw_eqN, cw_tf0, cw_tf1, cw_tfa, cw_bi, cw_bl, cw_bv, if_true, if_false, Bool.false_eq_true, Bool.true_eq_false, ite_self, cw_neg1, cw_m1a, cw_ztl, cw_zeq, cw_zadd, cw_znadd, cw_nzadd, cw_zsub, cw_zmul, cw_znmul, cw_nzmul, cw_ltNZ, cw_eqZN, cw_eqNZ, cw_ltZN, cw_on, cw_os, cw_c0, cw_c1, cw_c2, cw_c3, cw_c4, cw_c5, cw_c8, cw_c10, cw_c40, cw_c80, cw_c100, cp_144z, cp_140n, cw_mabs, cw_mod8, decide_eq_true_eq, not_false_eq_true, not_true_eq_false, true_and, and_true, false_and, and_false, decide_eq_false_iff_not, Nat.not_lt, Nat.not_le, if_pos, if_neg]
      refine K _ ⟨⟨ce_swS D S all m set, t2.2.1.of (fun a k h => cd_up_a (by omega)), fun _ _ => rfl, rfl, fun r k hr => ?_, t2.sc h8 h12 (fun a k hk => cd_up_a (by unfold ce_sc2 ce_scr at hk; omega)) (fun a k ha => cd_up_a (by omega)) (t2.2.1.of (fun a k h => cd_up_a (by omega)))⟩, fun s hs hsz => ?_⟩
      · obtain ⟨q, rfl⟩ : ∃ q, r = q + 2 := ⟨r - 2, by omega⟩
        rfl
      · by_cases hss : s = set
        · rw [hss, cd_up_s]
        · rw [cd_up_k hss, f2 _ _ (by omega)]; exact a1 s (by omega) hsz
    · simp (disch := omega) only [cw_l0, cw_l1, cw_l2, cw_l3, cw_l4, cw_l5, cw_l6, cw_l7, cw_l8, cw_l9, cw_l10, cw_l11, cw_l12, cw_l13, cw_l14, cw_l15, cw_l16, cw_l17, cw_l18, cw_l19, cw_l20, cw_l27, cw_l28, cw_l31, cw_l32, cw_l40, cw_l52, cw_l60, cw_l61, cw_l63, cw_l64, cw_l80, cw_l97, cw_l99, cw_l100, cw_l255, cw_l500, cw_l999, cw_l65536, cd_inN, nI_clamp, nI_add, pk_mul, cw_subc, cw_zz, pk_div, cw_ltN, cw_eqN, cw_tf0, cw_tf1, cw_tfa, cw_bi, cw_bl, cw_bv, if_true, if_false, Bool.false_eq_true, Bool.true_eq_false, ite_self, cw_neg1, cw_m1a, cw_ztl, cw_zeq, cw_zadd, cw_znadd, cw_nzadd, cw_zsub, cw_zmul, cw_znmul, cw_nzmul, cw_ltNZ, cw_eqZN, cw_eqNZ, cw_ltZN, cw_on, cw_os, cw_c0, cw_c1, cw_c2, cw_c3, cw_c4, cw_c5, cw_c8, cw_c10, cw_c40, cw_c80, cw_c100, cp_144z, cp_140n, cw_mabs, cw_mod8, decide_eq_true_eq, not_false_eq_true, not_true_eq_false, true_and, and_true, false_and, and_false, decide_eq_false_iff_not, Nat.not_lt, Nat.not_le, if_pos, if_neg, hR1.1.2.2.1, cw_sh1, cw_andn]
      exact K I1 ⟨⟨T, hT, hT1, hT0, hT2, t1⟩, fun s hs hsz => a1 s (by
        have : s ≠ set := fun q => hz (by rw [← q]; exact hsz)
        omega) hsz⟩
end CEY
