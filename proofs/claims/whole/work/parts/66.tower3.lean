/-! ===== the reference: tower, its walk ===== -/
section CFC
variable {L : Nat} {w : Bool} {I : Nat → Nat → Int32} {J : Nat → Nat → Int64} {D : cd_D} {S : cd_S}
variable {Y : ce_Y} {T : cd_S}
def ce_stl (D : cd_D) (Z : Nat → Bool) (I : Nat → Nat → Int32) : Prop := ∀ s, s < 2 ^ D 0 0 → I 130 s = cd_tf (Z s)
theorem ce_or_x {s t : Nat} : s ||| 2 ^ t = if s.testBit t then s else s ^^^ 2 ^ t := by
  refine Nat.eq_of_testBit_eq (fun k => ?_)
  cases hb : s.testBit t with
  | true =>
    rw [if_pos rfl, Nat.testBit_or, ce_2tb]
    by_cases hk : t = k
    · subst hk; rw [hb]; rfl
    · rw [decide_eq_false hk, Bool.or_false]
  | false =>
    rw [if_neg (by decide), Nat.testBit_or, ce_2tb, ce_xtb]
    by_cases hk : t = k
    · subst hk; rw [hb, decide_eq_true rfl]; rfl
    · rw [decide_eq_false hk, Bool.or_false, Bool.xor_false]
theorem cp_236a (hK : ce_ok D S Y) (hM : ce_M D S Y I) {x : Int32} {Z : Nat → Bool} {t i : Nat} {Q : Option Value → (Nat → Nat → Int32) → (Nat → Nat → Int64) → Prop} {I1 : Nat → Nat → Int32} (hR1 : cd_refD D I1) (p1 : ce_pls D (fun _ => True) I1) (hz : ce_stl D Z I1) (ht : t < D 0 0) {w7 w8 : Value} (K : ∀ I2 u6 u7 u8, (∀ a k, ¬ (130 ≤ a ∧ a ≤ 131) → I2 a k = I1 a k) → ce_stl D (fun s => !s.testBit t && (Z (s ||| 2 ^ t) && ce_cb D t (s ||| 2 ^ t))) I2 → cw L w (if nI i = x then some (some (.int (nI t)), cd_mm L w I2 J) else cd_go 236 43 [.ref 100, .int x, .int (nI (ce_tall D)), .int (nI (2 ^ D 0 0)), .int (nI t), .int (nI (i + 1)), .int u6, u7, u8] [] (cd_mm L w I2 J)) Q) : cw L w (cd_go 236 85 [.ref 100, .int x, .int (nI (ce_tall D)), .int (nI (2 ^ D 0 0)), .int (nI t), .int (nI i), .int 0, w7, w8] [] (cd_mm L w I1 J)) Q := by
  have h8 := hK.1.1.1
  have h2p := ce_pwt h8
  refine cw_up (fun s (y : (Nat → Nat → Int32) × Value × Value) => cd_go 236 85 [.ref 100, .int x, .int (nI (ce_tall D)), .int (nI (2 ^ D 0 0)), .int (nI t), .int (nI i), .int (nI s), y.2.1, y.2.2] [] (cd_mm L w y.1 J)) (fun s y => (∀ a k, a ≠ 131 → y.1 a k = I1 a k) ∧ ∀ u, u < s → y.1 131 u = cd_tf (!u.testBit t && (Z (u ||| 2 ^ t) && ce_cb D t (u ||| 2 ^ t)))) (2 ^ D 0 0) ?_ ?_ 0 (I1, w7, w8) (Nat.zero_le _) ⟨fun _ _ _ => rfl, fun u hu => by omega⟩
  · intro ⟨I2, u7, u8⟩ ⟨f2, a2⟩
    replace f2 : ∀ a k, a ≠ 131 → I2 a k = I1 a k := f2
    replace a2 : ∀ u, u < 2 ^ D 0 0 → I2 131 u = cd_tf (!u.testBit t && (Z (u ||| 2 ^ t) && ce_cb D t (u ||| 2 ^ t))) := a2
    refine cw_m (fun _ => cd_s236_85) ?_
    simp (disch := omega) only [cw_l0, cw_l1, cw_l2, cw_l3, cw_l4, cw_l5, cw_l6, cw_l7, cw_l8, cw_l9, cw_l10, cw_l11, cw_l12, cw_l13, cw_l14, cw_l15, cw_l16, cw_l17, cw_l18, cw_l19, cw_l20, cw_l27, cw_l28, cw_l31, cw_l32, cw_l40, cw_l52, cw_l60, cw_l61, cw_l63, cw_l64, cw_l80, cw_l97, cw_l99, cw_l100, cw_l255, cw_l500, cw_l999, cw_l65536, cd_inN, nI_clamp, nI_add, pk_mul, cw_subc, cw_zz, pk_div, cw_ltN, cw_eqN, cw_tf0, cw_tf1, cw_tfa, cw_bi, cw_bl, cw_bv, if_true, if_false, Bool.false_eq_true, Bool.true_eq_false, ite_self, cw_neg1, cw_m1a, cw_ztl, cw_zeq, cw_zadd, cw_znadd, cw_nzadd, cw_zsub, cw_zmul, cw_znmul, cw_nzmul, cw_ltNZ, cw_eqZN, cw_eqNZ, cw_ltZN, cw_on, cw_os, cw_c0, cw_c1, cw_c2, cw_c3, cw_c4, cw_c5, cw_c8, cw_c10, cw_c40, cw_c80, cw_c100, cp_144z, cp_140n, cw_mabs, cw_mod8, decide_eq_true_eq, not_false_eq_true, not_true_eq_false, true_and, and_true, false_and, and_false, decide_eq_false_iff_not, Nat.not_lt, Nat.not_le, if_pos, if_neg]
    refine cw_up (fun s (I3 : Nat → Nat → Int32) => cd_go 236 121 [.ref 100, .int x, .int (nI (ce_tall D)), .int (nI (2 ^ D 0 0)), .int (nI t), .int (nI i), .int (nI s), u7, u8] [] (cd_mm L w I3 J)) (fun s I3 => (∀ a k, ¬ (130 ≤ a ∧ a ≤ 131) → I3 a k = I1 a k) ∧ (∀ u, I3 131 u = I2 131 u) ∧ ∀ u, u < s → I3 130 u = cd_tf (!u.testBit t && (Z (u ||| 2 ^ t) && ce_cb D t (u ||| 2 ^ t)))) (2 ^ D 0 0) ?_ ?_ 0 I2 (Nat.zero_le _) ⟨fun a k h => f2 a k (by omega), fun _ => rfl, fun u hu => by omega⟩
    · intro I3 ⟨f3, g3, a3⟩
      have K := K I3 (nI (2 ^ D 0 0)) u7 u8 f3 a3
      refine cw_m (fun _ => cd_s236_121) ?_
      rw [if_neg (nI_nlt (Nat.le_refl _) (by omega)), nI_1]
      exact K
    · intro s I3 hs ⟨f3, g3, a3⟩ K3
      have g := a2 s hs
      rw [← g3] at g
      refine cw_m (fun _ => cd_s236_121) ?_
      simp (disch := omega) only [cw_l0, cw_l1, cw_l2, cw_l3, cw_l4, cw_l5, cw_l6, cw_l7, cw_l8, cw_l9, cw_l10, cw_l11, cw_l12, cw_l13, cw_l14, cw_l15, cw_l16, cw_l17, cw_l18, cw_l19, cw_l20, cw_l27, cw_l28, cw_l31, cw_l32, cw_l40, cw_l52, cw_l60, cw_l61, cw_l63, cw_l64, cw_l80, cw_l97, cw_l99, cw_l100, cw_l255, cw_l500, cw_l999, cw_l65536, cd_inN, nI_clamp, nI_add, pk_mul, cw_subc, cw_zz, pk_div, cw_ltN, cw_eqN, cw_tf0, cw_tf1, cw_tfa, cw_bi, cw_bl, cw_bv, if_true, if_false, Bool.false_eq_true, Bool.true_eq_false, ite_self, cw_neg1, cw_m1a, cw_ztl, cw_zeq, cw_zadd, cw_znadd, cw_nzadd, cw_zsub, cw_zmul, cw_znmul, cw_nzmul, cw_ltNZ, cw_eqZN, cw_eqNZ, cw_ltZN, cw_on, cw_os, cw_c0, cw_c1, cw_c2, cw_c3, cw_c4, cw_c5, cw_c8, cw_c10, cw_c40, cw_c80, cw_c100, cp_144z, cp_140n, cw_mabs, cw_mod8, decide_eq_true_eq, not_false_eq_true, not_true_eq_false, true_and, and_true, false_and, and_false, decide_eq_false_iff_not, Nat.not_lt, Nat.not_le, if_pos, if_neg, g]
      refine K3 _ ⟨fun a k h => by rw [cd_up_a (by omega)]; exact f3 a k h, fun u => by rw [cd_up_a (by decide)]; exact g3 u, fun u hu => ?_⟩
      by_cases hus : u = s
      · rw [hus, cd_up_s]
      · rw [cd_up_k hus]; exact a3 u (by omega)
  · intro s ⟨I2, u7, u8⟩ hs ⟨f2, a2⟩ K2
    replace f2 : ∀ a k, a ≠ 131 → I2 a k = I1 a k := f2
    replace a2 : ∀ u, u < s → I2 131 u = cd_tf (!u.testBit t && (Z (u ||| 2 ^ t) && ce_cb D t (u ||| 2 ^ t))) := a2
    have K2 : ∀ b u7 u8, b = (!s.testBit t && (Z (s ||| 2 ^ t) && ce_cb D t (s ||| 2 ^ t))) → cw L w (cd_go 236 85 [.ref 100, .int x, .int (nI (ce_tall D)), .int (nI (2 ^ D 0 0)), .int (nI t), .int (nI i), .int (nI (s + 1)), u7, u8] [] (cd_mm L w (cd_up I2 131 s (cd_tf b)) J)) Q := fun b u7 u8 hb => K2 (_, u7, u8) ⟨fun a k h => (cd_up_a h).trans (f2 a k h), fun u hu => by
      show cd_up I2 131 s (cd_tf b) 131 u = _
      by_cases hus : u = s
      · rw [hus, cd_up_s, hb]
      · rw [cd_up_k hus]; exact a2 u (by omega)⟩
    have hR2 : cd_refD D I2 := hR1.of (fun a k h1 h2 => f2 a k (by omega))
    have c0 := cp_139n (L := L) (w := w) (I := I2) (J := J) (h := s) (k := t) (by omega) (by omega)
    have hol := ce_or_lt hs (Nat.pow_lt_pow_right (show 1 < 2 by decide) ht)
    have p2 : ce_pls D (fun u => u < s ||| 2 ^ t) I2 := fun u hu _ => by rw [f2 _ _ (by decide)]; exact p1 u hu trivial
    have c1 := cp_234 (L := L) (w := w) (J := J) hK.1 hR2 ht hol p2
    have g := hz (s ||| 2 ^ t) hol
    rw [← f2 130 _ (by decide)] at g
    refine cw_m (fun _ => cd_s236_85) ?_
    simp (disch := omega) only [cw_l0, cw_l1, cw_l2, cw_l3, cw_l4, cw_l5, cw_l6, cw_l7, cw_l8, cw_l9, cw_l10, cw_l11, cw_l12, cw_l13, cw_l14, cw_l15, cw_l16, cw_l17, cw_l18, cw_l19, cw_l20, cw_l27, cw_l28, cw_l31, cw_l32, cw_l40, cw_l52, cw_l60, cw_l61, cw_l63, cw_l64, cw_l80, cw_l97, cw_l99, cw_l100, cw_l255, cw_l500, cw_l999, cw_l65536, cd_inN, nI_clamp, nI_add, pk_mul, cw_subc, cw_zz, pk_div, cw_ltN, cw_eqN, cw_tf0, cw_tf1, cw_tfa, cw_bi, cw_bl, cw_bv, if_true, if_false, Bool.false_eq_true, Bool.true_eq_false, ite_self, cw_neg1, cw_m1a, cw_ztl, cw_zeq, cw_zadd, cw_znadd, cw_nzadd, cw_zsub, cw_zmul, cw_znmul, cw_nzmul, cw_ltNZ, cw_eqZN, cw_eqNZ, cw_ltZN, cw_on, cw_os, cw_c0, cw_c1, cw_c2, cw_c3, cw_c4, cw_c5, cw_c8, cw_c10, cw_c40, cw_c80, cw_c100, cp_144z, cp_140n, cw_mabs, cw_mod8, decide_eq_true_eq, not_false_eq_true, not_true_eq_false, true_and, and_true, false_and, and_false, decide_eq_false_iff_not, Nat.not_lt, Nat.not_le, if_pos, if_neg, c0, cw_sh1, cw_or]
    refine cw_m (fun _ => cd_s236_97) ?_
    cases hb : s.testBit t with
    | true =>
      simp (disch := omega) only [cw_l0, cw_l1, cw_l2, cw_l3, cw_l4, cw_l5, cw_l6, cw_l7, cw_l8, cw_l9, cw_l10, cw_l11, cw_l12, cw_l13, cw_l14, cw_l15, cw_l16, cw_l17, cw_l18, cw_l19, cw_l20, cw_l27, cw_l28, cw_l31, cw_l32, cw_l40, cw_l52, cw_l60, cw_l61, cw_l63, cw_l64, cw_l80, cw_l97, cw_l99, cw_l100, cw_l255, cw_l500, cw_l999, cw_l65536, cd_inN, nI_clamp, nI_add, pk_mul, cw_subc, cw_zz, pk_div, cw_ltN, cw_eqN, cw_tf0, cw_tf1, cw_tfa, cw_bi, cw_bl, cw_bv, if_true, if_false, Bool.false_eq_true, Bool.true_eq_false, ite_self, cw_neg1, cw_m1a, cw_ztl, cw_zeq, cw_zadd, cw_znadd, cw_nzadd, cw_zsub, cw_zmul, cw_znmul, cw_nzmul, cw_ltNZ, cw_eqZN, cw_eqNZ, cw_ltZN, cw_on, cw_os, cw_c0, cw_c1, cw_c2, cw_c3, cw_c4, cw_c5, cw_c8, cw_c10, cw_c40, cw_c80, cw_c100, cp_144z, cp_140n, cw_mabs, cw_mod8, decide_eq_true_eq, not_false_eq_true, not_true_eq_false, true_and, and_true, false_and, and_false, decide_eq_false_iff_not, Nat.not_lt, Nat.not_le, if_pos, if_neg]
      exact K2 false _ _ (by rw [hb]; rfl)
    | false =>
      cases hZ : Z (s ||| 2 ^ t) with
      | false =>
        rw [hZ] at g
        simp (disch := omega) only [cw_l0, cw_l1, cw_l2, cw_l3, cw_l4, cw_l5, cw_l6, cw_l7, cw_l8, cw_l9, cw_l10, cw_l11, cw_l12, cw_l13, cw_l14, cw_l15, cw_l16, cw_l17, cw_l18, cw_l19, cw_l20, cw_l27, cw_l28, cw_l31, cw_l32, cw_l40, cw_l52, cw_l60, cw_l61, cw_l63, cw_l64, cw_l80, cw_l97, cw_l99, cw_l100, cw_l255, cw_l500, cw_l999, cw_l65536, cd_inN, nI_clamp, nI_add, pk_mul, cw_subc, cw_zz, pk_div, cw_ltN, cw_eqN, cw_tf0, cw_tf1, cw_tfa, cw_bi, cw_bl, cw_bv, if_true, if_false, Bool.false_eq_true, Bool.true_eq_false, ite_self, cw_neg1, cw_m1a, cw_ztl, cw_zeq, cw_zadd, cw_znadd, cw_nzadd, cw_zsub, cw_zmul, cw_znmul, cw_nzmul, cw_ltNZ, cw_eqZN, cw_eqNZ, cw_ltZN, cw_on, cw_os, cw_c0, cw_c1, cw_c2, cw_c3, cw_c4, cw_c5, cw_c8, cw_c10, cw_c40, cw_c80, cw_c100, cp_144z, cp_140n, cw_mabs, cw_mod8, decide_eq_true_eq, not_false_eq_true, not_true_eq_false, true_and, and_true, false_and, and_false, decide_eq_false_iff_not, Nat.not_lt, Nat.not_le, if_pos, if_neg, g]
        exact K2 false _ _ (by rw [hb, hZ]; rfl)
      | true =>
        rw [hZ] at g
        simp (disch := omega) only [cw_l0, cw_l1, cw_l2, cw_l3, cw_l4, cw_l5, cw_l6, cw_l7, cw_l8, cw_l9, cw_l10, cw_l11, cw_l12, cw_l13, cw_l14, cw_l15, cw_l16, cw_l17, cw_l18, cw_l19, cw_l20, cw_l27, cw_l28, cw_l31, cw_l32, cw_l40, cw_l52, cw_l60, cw_l61, cw_l63, cw_l64, cw_l80, cw_l97, cw_l99, cw_l100, cw_l255, cw_l500, cw_l999, cw_l65536, cd_inN, nI_clamp, nI_add, pk_mul, cw_subc, cw_zz, pk_div, cw_ltN, cw_eqN, cw_tf0, cw_tf1, cw_tfa, cw_bi, cw_bl, cw_bv, if_true, if_false, Bool.false_eq_true, Bool.true_eq_false, ite_self, cw_neg1, cw_m1a, cw_ztl, cw_zeq, cw_zadd, cw_znadd, cw_nzadd, cw_zsub, cw_zmul, cw_znmul, cw_nzmul, cw_ltNZ, cw_eqZN, cw_eqNZ, cw_ltZN, cw_on, cw_os, cw_c0, cw_c1, cw_c2, cw_c3, cw_c4, cw_c5, cw_c8, cw_c10, cw_c40, cw_c80, cw_c100, cp_144z, cp_140n, cw_mabs, cw_mod8, decide_eq_true_eq, not_false_eq_true, not_true_eq_false, true_and, and_true, false_and, and_false, decide_eq_false_iff_not, Nat.not_lt, Nat.not_le, if_pos, if_neg, g, c1]
        refine cw_m (fun _ => cd_s236_107) ?_
        cases hc : ce_cb D t (s ||| 2 ^ t) with
        | false =>
          simp (disch := omega) only [cw_l0, cw_l1, cw_l2, cw_l3, cw_l4, cw_l5, cw_l6, cw_l7, cw_l8, cw_l9, cw_l10, cw_l11, cw_l12, cw_l13, cw_l14, cw_l15, cw_l16, cw_l17, cw_l18, cw_l19, cw_l20, cw_l27, cw_l28, cw_l31, cw_l32, cw_l40, cw_l52, cw_l60, cw_l61, cw_l63, cw_l64, cw_l80, cw_l97, cw_l99, cw_l100, cw_l255, cw_l500, cw_l999, cw_l65536, cd_inN, nI_clamp, nI_add, pk_mul, cw_subc, cw_zz, pk_div, cw_ltN, cw_eqN, cw_tf0, cw_tf1, cw_tfa, cw_bi, cw_bl, cw_bv, if_true, if_false, Bool.false_eq_true, Bool.true_eq_false, ite_self, cw_neg1, cw_m1a, cw_ztl, cw_zeq, cw_zadd, cw_znadd, cw_nzadd, cw_zsub, cw_zmul, cw_znmul, cw_nzmul, cw_ltNZ, cw_eqZN, cw_eqNZ, cw_ltZN, cw_on, cw_os, cw_c0, cw_c1, cw_c2, cw_c3, cw_c4, cw_c5, cw_c8, cw_c10, cw_c40, cw_c80, cw_c100, cp_144z, cp_140n, cw_mabs, cw_mod8, decide_eq_true_eq, not_false_eq_true, not_true_eq_false, true_and, and_true, false_and, and_false, decide_eq_false_iff_not, Nat.not_lt, Nat.not_le, if_pos, if_neg]
          exact K2 false _ _ (by rw [hb, hZ, hc]; rfl)
        | true =>
          simp (disch := omega) only [cw_l0, cw_l1, cw_l2, cw_l3, cw_l4, cw_l5, cw_l6, cw_l7, cw_l8, cw_l9, cw_l10, cw_l11, cw_l12, cw_l13, cw_l14, cw_l15, cw_l16, cw_l17, cw_l18, cw_l19, cw_l20, cw_l27, cw_l28, cw_l31, cw_l32, cw_l40, cw_l52, cw_l60, cw_l61, cw_l63, cw_l64, cw_l80, cw_l97, cw_l99, cw_l100, cw_l255, cw_l500, cw_l999, cw_l65536, cd_inN, nI_clamp, nI_add, pk_mul, cw_subc, cw_zz, pk_div, cw_ltN, cw_eqN, cw_tf0, cw_tf1, cw_tfa, cw_bi, cw_bl, cw_bv, if_true, if_false, Bool.false_eq_true, Bool.true_eq_false, ite_self, cw_neg1, cw_m1a, cw_ztl, cw_zeq, cw_zadd, cw_znadd, cw_nzadd, cw_zsub, cw_zmul, cw_znmul, cw_nzmul, cw_ltNZ, cw_eqZN, cw_eqNZ, cw_ltZN, cw_on, cw_os, cw_c0, cw_c1, cw_c2, cw_c3, cw_c4, cw_c5, cw_c8, cw_c10, cw_c40, cw_c80, cw_c100, cp_144z, cp_140n, cw_mabs, cw_mod8, decide_eq_true_eq, not_false_eq_true, not_true_eq_false, true_and, and_true, false_and, and_false, decide_eq_false_iff_not, Nat.not_lt, Nat.not_le, if_pos, if_neg]
          exact K2 true _ _ (by rw [hb, hZ, hc]; rfl)
theorem cp_236b (hK : ce_ok D S Y) {x : Int32} {Z : Nat → Bool} {i : Nat} {Q : Option Value → (Nat → Nat → Int32) → (Nat → Nat → Int64) → Prop} {I1 : Nat → Nat → Int32} (hR1 : cd_refD D I1) (p1 : ce_pls D (fun _ => True) I1) (hz : ce_stl D Z I1) {w7 w8 : Value} (K : ∀ u7 u8, cw L w (cd_go 236 85 [.ref 100, .int x, .int (nI (ce_tall D)), .int (nI (2 ^ D 0 0)), .int (cd_oi (ce_tf D Z)), .int (nI i), .int 0, u7, u8] [] (cd_mm L w I1 J)) Q) : cw L w (cd_go 236 58 [.ref 100, .int x, .int (nI (ce_tall D)), .int (nI (2 ^ D 0 0)), .int (-1), .int (nI i), .int (zI ((D 0 0 : Int) - 1)), w7, w8] [] (cd_mm L w I1 J)) Q := by
  have h8 := hK.1.1.1
  have h2p := ce_pwt h8
  have go := cw_dn (L := L) (w := w) (Q := Q) (fun t (y : Value × Value) => cd_go 236 58 [.ref 100, .int x, .int (nI (ce_tall D)), .int (nI (2 ^ D 0 0)), .int (cd_oi (ce_fst (fun t => ce_any (fun s => Z s && ce_cb D t s) (2 ^ D 0 0)) (D 0 0 - t) t)), .int (nI i), .int (zI ((t : Int) - 1)), y.1, y.2] [] (cd_mm L w I1 J)) (fun t _ => t ≤ D 0 0) ?_ ?_ (D 0 0) (w7, w8) (Nat.le_refl _)
  · rw [Nat.sub_self, show ce_fst (fun t => ce_any (fun s => Z s && ce_cb D t s) (2 ^ D 0 0)) 0 (D 0 0) = none from rfl] at go
    exact go
  · intro ⟨u7, u8⟩ _
    rw [Nat.sub_zero, show ce_fst (fun t => ce_any (fun s => Z s && ce_cb D t s) (2 ^ D 0 0)) (D 0 0) 0 = ce_tf D Z from rfl]
    refine cw_m (fun _ => cd_s236_58) ?_
    simp (disch := omega) only [cw_l0, cw_l1, cw_l2, cw_l3, cw_l4, cw_l5, cw_l6, cw_l7, cw_l8, cw_l9, cw_l10, cw_l11, cw_l12, cw_l13, cw_l14, cw_l15, cw_l16, cw_l17, cw_l18, cw_l19, cw_l20, cw_l27, cw_l28, cw_l31, cw_l32, cw_l40, cw_l52, cw_l60, cw_l61, cw_l63, cw_l64, cw_l80, cw_l97, cw_l99, cw_l100, cw_l255, cw_l500, cw_l999, cw_l65536, cd_inN, nI_clamp, nI_add, pk_mul, cw_subc, cw_zz, pk_div, cw_ltN, cw_eqN, cw_tf0, cw_tf1, cw_tfa, cw_bi, cw_bl, cw_bv, if_true, if_false, Bool.false_eq_true, Bool.true_eq_false, ite_self, cw_neg1, cw_m1a, cw_ztl, cw_zeq, cw_zadd, cw_znadd, cw_nzadd, cw_zsub, cw_zmul, cw_znmul, cw_nzmul, cw_ltNZ, cw_eqZN, cw_eqNZ, cw_ltZN, cw_on, cw_os, cw_c0, cw_c1, cw_c2, cw_c3, cw_c4, cw_c5, cw_c8, cw_c10, cw_c40, cw_c80, cw_c100, cp_144z, cp_140n, cw_mabs, cw_mod8, decide_eq_true_eq, not_false_eq_true, not_true_eq_false, true_and, and_true, false_and, and_false, decide_eq_false_iff_not, Nat.not_lt, Nat.not_le, if_pos, if_neg]
    exact K _ _
  · intro t ⟨u7, u8⟩ ht K2
    replace ht : t + 1 ≤ D 0 0 := ht
    have K2 : ∀ (o : Option Nat) u7 u8, o = ce_fst (fun t => ce_any (fun s => Z s && ce_cb D t s) (2 ^ D 0 0)) (D 0 0 - t) t → cw L w (cd_go 236 58 [.ref 100, .int x, .int (nI (ce_tall D)), .int (nI (2 ^ D 0 0)), .int (cd_oi o), .int (nI i), .int (zI ((t : Int) - 1)), u7, u8] [] (cd_mm L w I1 J)) Q := fun o u7 u8 ho => by rw [ho]; exact K2 (u7, u8) (by omega)
    rw [ce_fst_st (by omega)] at K2
    generalize ce_fst (fun t => ce_any (fun s => Z s && ce_cb D t s) (2 ^ D 0 0)) (D 0 0 - (t + 1)) (t + 1) = o at *
    rw [show (((t + 1 : Nat) : Int) - 1) = (t : Int) by omega, zI_n]
    refine cw_m (fun _ => cd_s236_58) ?_
    rw [if_neg (nI_pos (by omega))]
    refine cw_up (fun s (y : Option Nat × Value) => cd_go 236 62 [.ref 100, .int x, .int (nI (ce_tall D)), .int (nI (2 ^ D 0 0)), .int (cd_oi y.1), .int (nI i), .int (nI t), .int (nI s), y.2] [] (cd_mm L w I1 J)) (fun s y => y.1 = if ce_any (fun s => Z s && ce_cb D t s) s then some t else o) (2 ^ D 0 0) ?_ ?_ 0 (o, u8) (Nat.zero_le _) rfl
    · intro ⟨o2, u⟩ ho
      replace ho : o2 = if ce_any (fun s => Z s && ce_cb D t s) (2 ^ D 0 0) then some t else o := ho
      refine cw_m (fun _ => cd_s236_62) ?_
      rw [if_neg (nI_nlt (Nat.le_refl _) (by omega)), show nI t + (-1) = zI ((t : Int) - 1) by rw [show (-1 : Int32) = zI (-1) from rfl, cw_nzadd]; rfl]
      exact K2 o2 _ _ ho
    · intro s ⟨o2, u⟩ hs ho K3
      replace ho : o2 = if ce_any (fun s => Z s && ce_cb D t s) s then some t else o := ho
      have g := hz s hs
      have p2 : ce_pls D (fun u => u < s) I1 := fun u hu _ => p1 u hu trivial
      have c1 := cp_234 (L := L) (w := w) (J := J) hK.1 hR1 (t := t) (by omega) hs p2
      have K3 : ∀ o3 u, o3 = (if (ce_any (fun s => Z s && ce_cb D t s) s || (Z s && ce_cb D t s)) then some t else o) → cw L w (cd_go 236 62 [.ref 100, .int x, .int (nI (ce_tall D)), .int (nI (2 ^ D 0 0)), .int (cd_oi o3), .int (nI i), .int (nI t), .int (nI (s + 1)), u] [] (cd_mm L w I1 J)) Q := fun o3 u h => K3 (o3, u) h
      refine cw_m (fun _ => cd_s236_62) ?_
      cases hZ : Z s with
      | false =>
        rw [hZ] at g
        rw [if_pos (nI_lt hs (by omega)), if_pos (cd_inN (by omega) (by decide)), nI_clamp (by omega), g, if_pos (show cd_tf false = 0 by decide), nI_1]
        exact K3 o2 _ (by rw [ho, hZ, Bool.false_and, Bool.or_false])
      | true =>
        rw [hZ] at g
        rw [if_pos (nI_lt hs (by omega)), if_pos (cd_inN (by omega) (by decide)), nI_clamp (by omega), g, if_neg (show ¬ cd_tf true = 0 by decide), c1, cw_bi]
        refine cw_m (fun _ => cd_s236_74) ?_
        cases hc : ce_cb D t s with
        | false =>
          rw [if_pos (show cd_tf false = 0 by decide), nI_1]
          exact K3 o2 _ (by rw [ho, hc, Bool.and_false, Bool.or_false])
        | true =>
          rw [if_neg (show ¬ cd_tf true = 0 by decide), nI_1]
          exact K3 (some t) _ (by rw [hZ, hc, Bool.and_true, Bool.or_true, if_pos rfl])
theorem cp_236 (hK : ce_ok D S Y) (hM : ce_M D S Y I) {x : Int32} : cw L w (cd_c 236 [.ref 100, .int x] (cd_mm L w I J)) (ce_post (.int (ce_toA D x)) D S Y I J) := by
  have h8 := hK.1.1.1
  have h2p := ce_pwt h8
  have h1p := @ce_2pos (D 0 0)
  have htb := ce_tm_b hK.1 (2 ^ D 0 0)
  replace htb : ce_tall D ≤ 792 := htb
  refine cw_c (l := [_, _, _, _, _, _, _, _, _]) rfl rfl ?_
  refine cw_m (fun _ => cd_s236_0) ?_
  refine cw_ci (cw_mono (cp_235 hK.1 hM.1) ?_)
  intro v I1 J1 ⟨hv, hJ, f1, p1⟩
  subst hv hJ
  refine ⟨_, rfl, ?_⟩
  have scr : ∀ I2 : Nat → Nat → Int32, (∀ a k, ¬ (129 ≤ a ∧ a ≤ 131) → I2 a k = I a k) → ∀ a : Int32, a = ce_toA D x → ce_post (.int (ce_toA D x)) D S Y I J1 (some (.int a)) I2 J1 := fun I2 f2 a ha => ⟨by rw [ha], hM.of hK.1 (fun a k _ h => f2 a k (by unfold ce_scr at h; omega)), ce_fCr (fun a k h => f2 a k (by omega))⟩
  generalize hQ : ce_post (.int (ce_toA D x)) D S Y I J1 = Q at *
  refine cw_m (fun _ => cd_s236_2) ?_
  by_cases hx : x = -1
  · rw [if_pos hx]
    exact cw_ret (scr I1 (fun a k h => f1 a k (by omega)) _ (by unfold ce_toA; rw [if_pos hx]))
  rw [if_neg hx]
  have hR1 : cd_refD D I1 := hM.1.of (fun a k h1 h2 => f1 a k (by omega))
  rw [hR1.1.1, show (1 : Int32) <<< (nI (D 0 0) &&& 31) = nI (2 ^ D 0 0) from cw_sh1 (by omega)]
  have hA : ce_toA D x = if ce_ix x 8 && !ce_any (fun i => decide (i ≤ x.toNatClampNeg) && ce_tz D i 0) 8 then cd_oi (ce_tf D (ce_tz D x.toNatClampNeg)) else -1 := by
    unfold ce_toA
    rw [if_neg hx]
  refine cw_up (fun s (I2 : Nat → Nat → Int32) => cd_go 236 15 [.ref 100, .int x, .int (nI (ce_tall D)), .int (nI (2 ^ D 0 0)), .int (nI s), .null, .null, .null, .null] [] (cd_mm L w I2 J1)) (fun s I2 => (∀ a k, a ≠ 130 → I2 a k = I1 a k) ∧ ∀ u, u < s → I2 130 u = cd_tf (ce_tz D 0 u)) (2 ^ D 0 0) ?_ ?_ 0 I1 (by omega) ⟨fun _ _ _ => rfl, fun u hu => by omega⟩
  · intro I2 ⟨f2, a2⟩
    refine cw_m (fun _ => cd_s236_15) ?_
    rw [if_neg (nI_nlt (Nat.le_refl _) (by omega))]
    refine cw_up (fun i (y : (Nat → Nat → Int32) × Int32 × Value × Value × Value) => cd_go 236 43 [.ref 100, .int x, .int (nI (ce_tall D)), .int (nI (2 ^ D 0 0)), .int y.2.1, .int (nI i), y.2.2.1, y.2.2.2.1, y.2.2.2.2] [] (cd_mm L w y.1 J1)) (fun i y => (∀ a k, ¬ (130 ≤ a ∧ a ≤ 131) → y.1 a k = I1 a k) ∧ ce_stl D (ce_tz D i) y.1 ∧ (∀ j, j < i → ce_tz D j 0 = false) ∧ ∀ j, j < i → x ≠ nI j) (D 0 0) ?_ ?_ 0 (I2, -1, .null, .null, .null) (by omega) ⟨fun a k h => f2 a k (by omega), a2, fun j hj => by omega, fun j hj => by omega⟩
    · intro ⟨I3, u4, u6, u7, u8⟩ ⟨f3, z3, n3, x3⟩
      replace f3 : ∀ a k, ¬ (130 ≤ a ∧ a ≤ 131) → I3 a k = I1 a k := f3
      replace z3 : ce_stl D (ce_tz D (D 0 0)) I3 := z3
      replace n3 : ∀ j, j < D 0 0 → ce_tz D j 0 = false := n3
      replace x3 : ∀ j, j < D 0 0 → x ≠ nI j := x3
      have f3I : ∀ a k, ¬ (129 ≤ a ∧ a ≤ 131) → I3 a k = I a k := fun a k h => by rw [f3 a k (by omega)]; exact f1 a k (by omega)
      obtain ⟨s, hs1, hs2⟩ := ce_tz_ne (D 0 0) n3
      have hs0 : s = 0 := by
        have := ce_tz_cnt (D 0 0) s hs1 hs2
        exact ce_cnt_0 (D 0 0) hs1 (by omega)
      subst hs0
      have g := z3 0 hs1
      have hans : (-1 : Int32) = ce_toA D x := by
        rw [hA]
        cases hix : ce_ix x 8 with
        | false => rfl
        | true =>
          obtain ⟨j, hj, rfl⟩ := ce_ix_t hix
          have hjn : D 0 0 ≤ j := Nat.le_of_not_lt fun q => x3 j q rfl
          have : ce_any (fun i => decide (i ≤ (nI j).toNatClampNeg) && ce_tz D i 0) 8 = true := ce_any_t.mpr ⟨D 0 0, by omega, by rw [nI_clamp (by omega), decide_eq_true hjn, hs2]; rfl⟩
          rw [this]
          rfl
      refine cw_m (fun _ => cd_s236_43) ?_
      refine cw_if (fun _ => cw_ret (scr I3 f3I _ hans)) (fun _ => ?_)
      dsimp only
      have gz : I3 130 (0 : Int32).toNatClampNeg = cd_tf true := by rw [← hs2]; exact g
      rw [if_pos (show cd_in 0 256 = true by decide), if_neg (show ¬ I3 130 (0 : Int32).toNatClampNeg = 0 by rw [gz]; decide)]
      exact cw_ret (scr I3 f3I _ hans)
    · intro i ⟨I3, u4, u6, u7, u8⟩ hi ⟨f3, z3, n3, x3⟩ K
      replace f3 : ∀ a k, ¬ (130 ≤ a ∧ a ≤ 131) → I3 a k = I1 a k := f3
      replace z3 : ce_stl D (ce_tz D i) I3 := z3
      replace n3 : ∀ j, j < i → ce_tz D j 0 = false := n3
      replace x3 : ∀ j, j < i → x ≠ nI j := x3
      have f3I : ∀ a k, ¬ (129 ≤ a ∧ a ≤ 131) → I3 a k = I a k := fun a k h => by rw [f3 a k (by omega)]; exact f1 a k (by omega)
      have g := z3 0 h1p
      have hR3 : cd_refD D I3 := hM.1.of (fun a k h1 h2 => f3I a k (by omega))
      refine cw_m (fun _ => cd_s236_43) ?_
      by_cases hlt : x < nI i
      · rw [if_pos hlt]
        refine cw_ret (scr I3 f3I _ ?_)
        rw [hA]
        cases hix : ce_ix x 8 with
        | false => rfl
        | true =>
          obtain ⟨j, hj, rfl⟩ := ce_ix_t hix
          exact absurd rfl (x3 j ((nI_ltI (by omega) (by omega)).mp hlt))
      · dsimp only
        rw [if_neg hlt, if_pos (show cd_in 0 256 = true by decide)]
        cases hz0 : ce_tz D i 0 with
        | true =>
          have gz : I3 130 (0 : Int32).toNatClampNeg = cd_tf true := by rw [← hz0]; exact g
          rw [if_neg (show ¬ I3 130 (0 : Int32).toNatClampNeg = 0 by rw [gz]; decide)]
          refine cw_ret (scr I3 f3I _ ?_)
          rw [hA]
          cases hix : ce_ix x 8 with
          | false => rfl
          | true =>
            obtain ⟨j, hj, rfl⟩ := ce_ix_t hix
            have hjn : i ≤ j := Nat.le_of_not_lt fun q => x3 j q rfl
            have : ce_any (fun i => decide (i ≤ (nI j).toNatClampNeg) && ce_tz D i 0) 8 = true := ce_any_t.mpr ⟨i, by omega, by rw [nI_clamp (by omega), decide_eq_true hjn, hz0]; rfl⟩
            rw [this]
            rfl
        | false =>
          have n4 : ∀ j, j < i + 1 → ce_tz D j 0 = false := fun j hj => by
            by_cases hji : j = i
            · rw [hji]; exact hz0
            · exact n3 j (by omega)
          obtain ⟨t, htf⟩ := ce_tf_some (D := D) (i := i) (fun j hj => n4 j (by omega))
          have htl := ce_tf_lt htf
          have p3 : ce_pls D (fun _ => True) I3 := fun u hu _ => by rw [f3 _ _ (by omega)]; exact p1 u hu trivial
          have gz : I3 130 (0 : Int32).toNatClampNeg = cd_tf false := by rw [← hz0]; exact g
          rw [if_pos (show I3 130 (0 : Int32).toNatClampNeg = 0 by rw [gz]; decide), hR3.1.1, show nI (D 0 0) - 1 = zI ((D 0 0 : Int) - 1) from cw_sub2 _ 1]
          refine cp_236b hK hR3 p3 z3 (fun u7 u8 => ?_)
          rw [htf]
          refine cp_236a hK hM hR3 p3 z3 htl (fun I4 u6 u7 u8 f4 z4 => ?_)
          have f4I : ∀ a k, ¬ (130 ≤ a ∧ a ≤ 131) → I4 a k = I1 a k := fun a k h => by rw [f4 a k h]; exact f3 a k h
          by_cases hxi : nI i = x
          · rw [if_pos hxi]
            refine cw_ret (scr I4 (fun a k h => by rw [f4I a k (by omega)]; exact f1 a k (by omega)) _ ?_)
            rw [hA, ← hxi, ce_ix_n (show i < 8 by omega) (by decide), nI_clamp (by omega), htf]
            have : ce_any (fun j => decide (j ≤ i) && ce_tz D j 0) 8 = false := by
              cases hq : ce_any (fun j => decide (j ≤ i) && ce_tz D j 0) 8 with
              | false => rfl
              | true =>
                obtain ⟨j, hj, hp⟩ := ce_any_t.mp hq
                rw [Bool.and_eq_true, decide_eq_true_eq] at hp
                rw [n4 j (by omega)] at hp
                cases hp.2
            rw [this]
            rfl
          · rw [if_neg hxi]
            refine K (I4, nI t, .int u6, u7, u8) ⟨f4I, ?_, n4, fun j hj => ?_⟩
            · have e : ce_tz D (i + 1) = fun s => !s.testBit t && (ce_tz D i (s ||| 2 ^ t) && ce_cb D t (s ||| 2 ^ t)) := by
                show (match ce_tf D (ce_tz D i) with | none => _ | some t => _) = _
                rw [htf]
              rw [e]
              exact z4
            · by_cases hji : j = i
              · rw [hji]; exact fun q => hxi q.symm
              · exact x3 j (by omega)
  · intro s I2 hs ⟨f2, a2⟩ K
    have K : ∀ b, b = ce_tz D 0 s → cw L w (cd_go 236 15 [.ref 100, .int x, .int (nI (ce_tall D)), .int (nI (2 ^ D 0 0)), .int (nI (s + 1)), .null, .null, .null, .null] [] (cd_mm L w (cd_up I2 130 s (cd_tf b)) J1)) Q := fun b hb => K _ ⟨fun a k h => by rw [cd_up_a h]; exact f2 a k h, fun u hu => by
      by_cases hus : u = s
      · rw [hus, cd_up_s, hb]
      · rw [cd_up_k hus]; exact a2 u (by omega)⟩
    have hR2 : cd_refD D I2 := hR1.of (fun a k h1 h2 => f2 a k (by omega))
    have g : I2 129 s = cd_tf (ce_pile D s) := by rw [f2 _ _ (by decide)]; exact p1 s hs trivial
    have c1 := cp_233 (L := L) (w := w) (J := J1) hK.1 hR2 (m := s) (o := 102) (r := 1) (by omega) (Or.inl ⟨rfl, rfl⟩)
    rw [show ce_su D 1 s (D 0 0) = ce_ht D s from rfl] at c1
    have hht := (ce_wt_b hK.1 s).2
    unfold ce_tz at K
    refine cw_m (fun _ => cd_s236_15) ?_
    cases hp : ce_pile D s with
    | false =>
      rw [hp] at g
      simp (disch := omega) only [cw_l0, cw_l1, cw_l2, cw_l3, cw_l4, cw_l5, cw_l6, cw_l7, cw_l8, cw_l9, cw_l10, cw_l11, cw_l12, cw_l13, cw_l14, cw_l15, cw_l16, cw_l17, cw_l18, cw_l19, cw_l20, cw_l27, cw_l28, cw_l31, cw_l32, cw_l40, cw_l52, cw_l60, cw_l61, cw_l63, cw_l64, cw_l80, cw_l97, cw_l99, cw_l100, cw_l255, cw_l500, cw_l999, cw_l65536, cd_inN, nI_clamp, nI_add, pk_mul, cw_subc, cw_zz, pk_div, cw_ltN, cw_eqN, cw_tf0, cw_tf1, cw_tfa, cw_bi, cw_bl, cw_bv, if_true, if_false, Bool.false_eq_true, Bool.true_eq_false, ite_self, cw_neg1, cw_m1a, cw_ztl, cw_zeq, cw_zadd, cw_znadd, cw_nzadd, cw_zsub, cw_zmul, cw_znmul, cw_nzmul, cw_ltNZ, cw_eqZN, cw_eqNZ, cw_ltZN, cw_on, cw_os, cw_c0, cw_c1, cw_c2, cw_c3, cw_c4, cw_c5, cw_c8, cw_c10, cw_c40, cw_c80, cw_c100, cp_144z, cp_140n, cw_mabs, cw_mod8, decide_eq_true_eq, not_false_eq_true, not_true_eq_false, true_and, and_true, false_and, and_false, decide_eq_false_iff_not, Nat.not_lt, Nat.not_le, if_pos, if_neg, g]
      exact K false (by rw [hp]; rfl)
    | true =>
      rw [hp] at g
      simp (disch := omega) only [cw_l0, cw_l1, cw_l2, cw_l3, cw_l4, cw_l5, cw_l6, cw_l7, cw_l8, cw_l9, cw_l10, cw_l11, cw_l12, cw_l13, cw_l14, cw_l15, cw_l16, cw_l17, cw_l18, cw_l19, cw_l20, cw_l27, cw_l28, cw_l31, cw_l32, cw_l40, cw_l52, cw_l60, cw_l61, cw_l63, cw_l64, cw_l80, cw_l97, cw_l99, cw_l100, cw_l255, cw_l500, cw_l999, cw_l65536, cd_inN, nI_clamp, nI_add, pk_mul, cw_subc, cw_zz, pk_div, cw_ltN, cw_eqN, cw_tf0, cw_tf1, cw_tfa, cw_bi, cw_bl, cw_bv, if_true, if_false, Bool.false_eq_true, Bool.true_eq_false, ite_self, cw_neg1, cw_m1a, cw_ztl, cw_zeq, cw_zadd, cw_znadd, cw_nzadd, cw_zsub, cw_zmul, cw_znmul, cw_nzmul, cw_ltNZ, cw_eqZN, cw_eqNZ, cw_ltZN, cw_on, cw_os, cw_c0, cw_c1, cw_c2, cw_c3, cw_c4, cw_c5, cw_c8, cw_c10, cw_c40, cw_c80, cw_c100, cp_144z, cp_140n, cw_mabs, cw_mod8, decide_eq_true_eq, not_false_eq_true, not_true_eq_false, true_and, and_true, false_and, and_false, decide_eq_false_iff_not, Nat.not_lt, Nat.not_le, if_pos, if_neg, g, c1]
      refine cw_m (fun _ => cd_s236_31) ?_
      by_cases he : ce_ht D s = ce_tall D
      · simp (disch := omega) only [cw_l0, cw_l1, cw_l2, cw_l3, cw_l4, cw_l5, cw_l6, cw_l7, cw_l8, cw_l9, cw_l10, cw_l11, cw_l12, cw_l13, cw_l14, cw_l15, cw_l16, cw_l17, cw_l18, cw_l19, cw_l20, cw_l27, cw_l28, cw_l31, cw_l32, cw_l40, cw_l52, cw_l60, cw_l61, cw_l63, cw_l64, cw_l80, cw_l97, cw_l99, cw_l100, cw_l255, cw_l500, cw_l999, cw_l65536, cd_inN, nI_clamp, nI_add, pk_mul, cw_subc, cw_zz, pk_div, cw_ltN, cw_eqN, cw_tf0, cw_tf1, cw_tfa, cw_bi, cw_bl, cw_bv, if_true, if_false, Bool.false_eq_true, Bool.true_eq_false, ite_self, cw_neg1, cw_m1a, cw_ztl, cw_zeq, cw_zadd, cw_znadd, cw_nzadd, cw_zsub, cw_zmul, cw_znmul, cw_nzmul, cw_ltNZ, cw_eqZN, cw_eqNZ, cw_ltZN, cw_on, cw_os, cw_c0, cw_c1, cw_c2, cw_c3, cw_c4, cw_c5, cw_c8, cw_c10, cw_c40, cw_c80, cw_c100, cp_144z, cp_140n, cw_mabs, cw_mod8, decide_eq_true_eq, not_false_eq_true, not_true_eq_false, true_and, and_true, false_and, and_false, decide_eq_false_iff_not, Nat.not_lt, Nat.not_le, if_pos, if_neg]
        exact K true (by rw [hp, decide_eq_true he]; rfl)
      · simp (disch := omega) only [cw_l0, cw_l1, cw_l2, cw_l3, cw_l4, cw_l5, cw_l6, cw_l7, cw_l8, cw_l9, cw_l10, cw_l11, cw_l12, cw_l13, cw_l14, cw_l15, cw_l16, cw_l17, cw_l18, cw_l19, cw_l20, cw_l27, cw_l28, cw_l31, cw_l32, cw_l40, cw_l52, cw_l60, cw_l61, cw_l63, cw_l64, cw_l80, cw_l97, cw_l99, cw_l100, cw_l255, cw_l500, cw_l999, cw_l65536, cd_inN, nI_clamp, nI_add, pk_mul, cw_subc, cw_zz, pk_div, cw_ltN, cw_eqN, cw_tf0, cw_tf1, cw_tfa, cw_bi, cw_bl, cw_bv, if_true, if_false, Bool.false_eq_true, Bool.true_eq_false, ite_self, cw_neg1, cw_m1a, cw_ztl, cw_zeq, cw_zadd, cw_znadd, cw_nzadd, cw_zsub, cw_zmul, cw_znmul, cw_nzmul, cw_ltNZ, cw_eqZN, cw_eqNZ, cw_ltZN, cw_on, cw_os, cw_c0, cw_c1, cw_c2, cw_c3, cw_c4, cw_c5, cw_c8, cw_c10, cw_c40, cw_c80, cw_c100, cp_144z, cp_140n, cw_mabs, cw_mod8, decide_eq_true_eq, not_false_eq_true, not_true_eq_false, true_and, and_true, false_and, and_false, decide_eq_false_iff_not, Nat.not_lt, Nat.not_le, if_pos, if_neg]
        exact K false (by rw [hp, decide_eq_false he]; rfl)
end CFC
