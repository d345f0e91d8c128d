/-! ===== the reference: fasten, seed, bumps, images, wants met ===== -/
def ce_s3 (S : cd_S) (v : Nat) : cd_S := fun r k => bif Nat.beq r 0 && Nat.beq k 3 then v else S r k
theorem ce_s3_ok {D : cd_D} {S : cd_S} (h : ce_okT D S) {v : Nat} (hv : v < 2 ^ 31) : ce_okT D (ce_s3 S v) := ⟨h.1, h.2.1, h.2.2.1, h.2.2.2.1, hv⟩
def ce_i99 (x : Int32) : Bool := decide (1 ≤ x) && decide (x ≤ 99)
theorem ce_i99_t {x : Int32} (h : ce_i99 x = true) : ∃ t, 1 ≤ t ∧ t ≤ 99 ∧ x = nI t := by
  unfold ce_i99 at h
  rw [Bool.and_eq_true, decide_eq_true_eq, decide_eq_true_eq, fa_le, fa_le] at h
  have h1 : (1 : Int32).toInt = 1 := rfl
  have h2 : (99 : Int32).toInt = 99 := rfl
  obtain ⟨j, hj, rfl⟩ := nI_of (x := x) (by rw [fa_lt, show (0 : Int32).toInt = 0 from rfl]; omega)
  rw [nI_toInt hj] at h
  exact ⟨j, by omega, by omega, rfl⟩
theorem ce_i99_n {h : Nat} (h1 : 1 ≤ h) (h2 : h ≤ 99) : ce_i99 (nI h) = true := by
  unfold ce_i99
  rw [show (1 : Int32) = nI 1 from rfl, show (99 : Int32) = nI 99 from rfl, decide_eq_true ((nI_leI (by decide) (by omega)).mpr h1), decide_eq_true ((nI_leI (by omega) (by decide)).mpr h2)]
  rfl
theorem ce_i99w (x : Int32) : (decide ((1 : Int64) ≤ x.toInt64) && decide (x.toInt64 ≤ (99 : Int64))) = ce_i99 x := by
  rw [show (1 : Int64) = (1 : Int32).toInt64 from rfl, show (99 : Int64) = (99 : Int32).toInt64 from rfl]
  simp only [fa_wide_le]
  rfl
theorem ce_ihw (x : Int32) : (decide ((1 : Int64) ≤ x.toInt64) && decide (x.toInt64 ≤ (20 : Int64))) = ce_ih x := by
  rw [show (1 : Int64) = (1 : Int32).toInt64 from rfl, show (20 : Int64) = (20 : Int32).toInt64 from rfl]
  simp only [fa_wide_le]
  rfl
theorem ce_fas_ok {D : cd_D} {S : cd_S} (h : ce_okT D S) {k v b : Nat} (hk : k < D 0 2) (hv : v ≤ 4) (hb : b ≤ 99) (hb2 : v ≠ 2 → b = 0) (hu : cd_und D (D 11 k) (S 1 (D 12 k)) = true) : ce_okT D (ce_fas S k v b) := by
  have e2 : ∀ j, ce_fas S k v b 2 j = if j = k then v else S 2 j := fun j => by
    show (bif true && Nat.beq j k then v else S 2 j) = _
    rw [Bool.true_and, cw_beq]
    by_cases hj : j = k
    · rw [decide_eq_true hj, if_pos hj]; rfl
    · rw [decide_eq_false hj, if_neg hj]; rfl
  have e3 : ∀ j, ce_fas S k v b 3 j = if j = k then b else S 3 j := fun j => by
    show (bif true && Nat.beq j k then b else S 3 j) = _
    rw [Bool.true_and, cw_beq]
    by_cases hj : j = k
    · rw [decide_eq_true hj, if_pos hj]; rfl
    · rw [decide_eq_false hj, if_neg hj]; rfl
  refine ⟨⟨h.1.1, h.1.2.1, ce_or_lt h.1.2.2.1 (Nat.pow_lt_pow_right (by decide) hk), fun j hj => ?_⟩, fun j hj hh => ?_, h.2.2.1, fun j hj h2 => ?_, h.2.2.2.2⟩
  · rw [e2, e3]
    have := h.1.2.2.2 j hj
    by_cases hjk : j = k
    · rw [if_pos hjk, if_pos hjk]; exact ⟨hv, hb⟩
    · rw [if_neg hjk, if_neg hjk]; exact this
  · have h3 : (S 0 2 ||| 2 ^ k).testBit j = true := hh
    rw [Nat.testBit_or, ce_2tb, Bool.or_eq_true, decide_eq_true_eq] at h3
    rcases h3 with h3 | h3
    · exact h.2.1 j hj h3
    · subst h3; exact hu
  · rw [e2] at h2
    rw [e3]
    by_cases hjk : j = k
    · rw [if_pos hjk]; rw [if_pos hjk] at h2; exact hb2 h2
    · rw [if_neg hjk]; rw [if_neg hjk] at h2; exact h.2.2.2.1 j hj h2
section CEV
variable {L : Nat} {w : Bool} {I : Nat → Nat → Int32} {J : Nat → Nat → Int64} {D : cd_D} {S : cd_S}
variable {Y : ce_Y} {T : cd_S}
theorem cp_232n (hK : ce_ok D S Y) (hM : ce_M D S Y I) {x y z : Int32} (hx : ce_ix x (D 0 2) = false) : cw L w (cd_c 232 [.ref 100, .int x, .int y, .int z] (cd_mm L w I J)) (ce_post (.int (-1001)) D S Y I J) := by
  refine cw_c (l := [_, _, _, _, _]) rfl rfl ?_
  refine cw_m (fun _ => cd_s232_0) ?_
  simp (disch := omega) only [cw_l0, cw_l1, cw_l2, cw_l3, cw_l4, cw_l5, cw_l6, cw_l7, cw_l8, cw_l9, cw_l10, cw_l11, cw_l12, cw_l13, cw_l14, cw_l15, cw_l16, cw_l17, cw_l18, cw_l19, cw_l20, cw_l27, cw_l28, cw_l31, cw_l32, cw_l40, cw_l52, cw_l60, cw_l61, cw_l63, cw_l64, cw_l80, cw_l97, cw_l99, cw_l100, cw_l255, cw_l500, cw_l999, cw_l65536, cd_inN, nI_clamp, nI_add, pk_mul, cw_subc, cw_zz, pk_div, cw_ltN, cw_eqN, cw_tf0, cw_tf1, cw_tfa, cw_bi, cw_bl, cw_bv, if_true, if_false, Bool.false_eq_true, Bool.true_eq_false, ite_self, cw_neg1, cw_m1a, cw_ztl, cw_zeq, cw_zadd, cw_znadd, cw_nzadd, cw_zsub, cw_zmul, cw_znmul, cw_nzmul, cw_ltNZ, cw_eqZN, cw_eqNZ, cw_ltZN, cw_on, cw_os, cw_c0, cw_c1, cw_c2, cw_c3, cw_c4, cw_c5, cw_c8, cw_c10, cw_c40, cw_c80, cw_c100, cp_144z, cp_140n, cw_mabs, cw_mod8, decide_eq_true_eq, not_false_eq_true, not_true_eq_false, true_and, and_true, false_and, and_false, decide_eq_false_iff_not, Nat.not_lt, Nat.not_le, cp_142 hM.1 hK.1, hx]
  refine cw_m (fun _ => cd_s232_3) ?_
  simp (disch := omega) only [cw_l0, cw_l1, cw_l2, cw_l3, cw_l4, cw_l5, cw_l6, cw_l7, cw_l8, cw_l9, cw_l10, cw_l11, cw_l12, cw_l13, cw_l14, cw_l15, cw_l16, cw_l17, cw_l18, cw_l19, cw_l20, cw_l27, cw_l28, cw_l31, cw_l32, cw_l40, cw_l52, cw_l60, cw_l61, cw_l63, cw_l64, cw_l80, cw_l97, cw_l99, cw_l100, cw_l255, cw_l500, cw_l999, cw_l65536, cd_inN, nI_clamp, nI_add, pk_mul, cw_subc, cw_zz, pk_div, cw_ltN, cw_eqN, cw_tf0, cw_tf1, cw_tfa, cw_bi, cw_bl, cw_bv, if_true, if_false, Bool.false_eq_true, Bool.true_eq_false, ite_self, cw_neg1, cw_m1a, cw_ztl, cw_zeq, cw_zadd, cw_znadd, cw_nzadd, cw_zsub, cw_zmul, cw_znmul, cw_nzmul, cw_ltNZ, cw_eqZN, cw_eqNZ, cw_ltZN, cw_on, cw_os, cw_c0, cw_c1, cw_c2, cw_c3, cw_c4, cw_c5, cw_c8, cw_c10, cw_c40, cw_c80, cw_c100, cp_144z, cp_140n, cw_mabs, cw_mod8, decide_eq_true_eq, not_false_eq_true, not_true_eq_false, true_and, and_true, false_and, and_false, decide_eq_false_iff_not, Nat.not_lt, Nat.not_le]
  exact cw_ret ⟨rfl, hM, ce_fC.rf⟩
theorem cp_232o (hK : ce_ok D S Y) (hM : ce_M D S Y I) {x y z : Int32} (hx : ce_ix x (D 0 2) = true) (hy : ce_ix y 5 = false ∨ y = nI 2 ∧ ce_i99 z = false) : cw L w (cd_c 232 [.ref 100, .int x, .int y, .int z] (cd_mm L w I J)) (ce_post (.int (-1002)) D S Y I J) := by
  have e := ce_ixl (x := y) (n := 5) (h := 4) rfl (by decide)
  refine cw_c (l := [_, _, _, _, _]) rfl rfl ?_
  refine cw_m (fun _ => cd_s232_0) ?_
  simp (disch := omega) only [cw_l0, cw_l1, cw_l2, cw_l3, cw_l4, cw_l5, cw_l6, cw_l7, cw_l8, cw_l9, cw_l10, cw_l11, cw_l12, cw_l13, cw_l14, cw_l15, cw_l16, cw_l17, cw_l18, cw_l19, cw_l20, cw_l27, cw_l28, cw_l31, cw_l32, cw_l40, cw_l52, cw_l60, cw_l61, cw_l63, cw_l64, cw_l80, cw_l97, cw_l99, cw_l100, cw_l255, cw_l500, cw_l999, cw_l65536, cd_inN, nI_clamp, nI_add, pk_mul, cw_subc, cw_zz, pk_div, cw_ltN, cw_eqN, cw_tf0, cw_tf1, cw_tfa, cw_bi, cw_bl, cw_bv, if_true, if_false, Bool.false_eq_true, Bool.true_eq_false, ite_self, cw_neg1, cw_m1a, cw_ztl, cw_zeq, cw_zadd, cw_znadd, cw_nzadd, cw_zsub, cw_zmul, cw_znmul, cw_nzmul, cw_ltNZ, cw_eqZN, cw_eqNZ, cw_ltZN, cw_on, cw_os, cw_c0, cw_c1, cw_c2, cw_c3, cw_c4, cw_c5, cw_c8, cw_c10, cw_c40, cw_c80, cw_c100, cp_144z, cp_140n, cw_mabs, cw_mod8, decide_eq_true_eq, not_false_eq_true, not_true_eq_false, true_and, and_true, false_and, and_false, decide_eq_false_iff_not, Nat.not_lt, Nat.not_le, cp_142 hM.1 hK.1, hx]
  refine cw_m (fun _ => cd_s232_3) ?_
  simp (disch := omega) only [cw_l0, cw_l1, cw_l2, cw_l3, cw_l4, cw_l5, cw_l6, cw_l7, cw_l8, cw_l9, cw_l10, cw_l11, cw_l12, cw_l13, cw_l14, cw_l15, cw_l16, cw_l17, cw_l18, cw_l19, cw_l20, cw_l27, cw_l28, cw_l31, cw_l32, cw_l40, cw_l52, cw_l60, cw_l61, cw_l63, cw_l64, cw_l80, cw_l97, cw_l99, cw_l100, cw_l255, cw_l500, cw_l999, cw_l65536, cd_inN, nI_clamp, nI_add, pk_mul, cw_subc, cw_zz, pk_div, cw_ltN, cw_eqN, cw_tf0, cw_tf1, cw_tfa, cw_bi, cw_bl, cw_bv, if_true, if_false, Bool.false_eq_true, Bool.true_eq_false, ite_self, cw_neg1, cw_m1a, cw_ztl, cw_zeq, cw_zadd, cw_znadd, cw_nzadd, cw_zsub, cw_zmul, cw_znmul, cw_nzmul, cw_ltNZ, cw_eqZN, cw_eqNZ, cw_ltZN, cw_on, cw_os, cw_c0, cw_c1, cw_c2, cw_c3, cw_c4, cw_c5, cw_c8, cw_c10, cw_c40, cw_c80, cw_c100, cp_144z, cp_140n, cw_mabs, cw_mod8, decide_eq_true_eq, not_false_eq_true, not_true_eq_false, true_and, and_true, false_and, and_false, decide_eq_false_iff_not, Nat.not_lt, Nat.not_le, cp_138, e]
  refine cw_m (fun _ => cd_s232_11) ?_
  rcases hy with h | ⟨rfl, h⟩
  · simp (disch := omega) only [cw_l0, cw_l1, cw_l2, cw_l3, cw_l4, cw_l5, cw_l6, cw_l7, cw_l8, cw_l9, cw_l10, cw_l11, cw_l12, cw_l13, cw_l14, cw_l15, cw_l16, cw_l17, cw_l18, cw_l19, cw_l20, cw_l27, cw_l28, cw_l31, cw_l32, cw_l40, cw_l52, cw_l60, cw_l61, cw_l63, cw_l64, cw_l80, cw_l97, cw_l99, cw_l100, cw_l255, cw_l500, cw_l999, cw_l65536, cd_inN, nI_clamp, nI_add, pk_mul, cw_subc, cw_zz, pk_div, cw_ltN, cw_eqN, cw_tf0, cw_tf1, cw_tfa, cw_bi, cw_bl, cw_bv, if_true, if_false, Bool.false_eq_true, Bool.true_eq_false, ite_self, cw_neg1, cw_m1a, cw_ztl, cw_zeq, cw_zadd, cw_znadd, cw_nzadd, cw_zsub, cw_zmul, cw_znmul, cw_nzmul, cw_ltNZ, cw_eqZN, cw_eqNZ, cw_ltZN, cw_on, cw_os, cw_c0, cw_c1, cw_c2, cw_c3, cw_c4, cw_c5, cw_c8, cw_c10, cw_c40, cw_c80, cw_c100, cp_144z, cp_140n, cw_mabs, cw_mod8, decide_eq_true_eq, not_false_eq_true, not_true_eq_false, true_and, and_true, false_and, and_false, decide_eq_false_iff_not, Nat.not_lt, Nat.not_le, h]
    exact cw_ret ⟨rfl, hM, ce_fC.rf⟩
  · have e5 := ce_ix_n (t := 2) (n := 5) (by decide) (by decide)
    simp (disch := omega) only [cw_l0, cw_l1, cw_l2, cw_l3, cw_l4, cw_l5, cw_l6, cw_l7, cw_l8, cw_l9, cw_l10, cw_l11, cw_l12, cw_l13, cw_l14, cw_l15, cw_l16, cw_l17, cw_l18, cw_l19, cw_l20, cw_l27, cw_l28, cw_l31, cw_l32, cw_l40, cw_l52, cw_l60, cw_l61, cw_l63, cw_l64, cw_l80, cw_l97, cw_l99, cw_l100, cw_l255, cw_l500, cw_l999, cw_l65536, cd_inN, nI_clamp, nI_add, pk_mul, cw_subc, cw_zz, pk_div, cw_ltN, cw_eqN, cw_tf0, cw_tf1, cw_tfa, cw_bi, cw_bl, cw_bv, if_true, if_false, Bool.false_eq_true, Bool.true_eq_false, ite_self, cw_neg1, cw_m1a, cw_ztl, cw_zeq, cw_zadd, cw_znadd, cw_nzadd, cw_zsub, cw_zmul, cw_znmul, cw_nzmul, cw_ltNZ, cw_eqZN, cw_eqNZ, cw_ltZN, cw_on, cw_os, cw_c0, cw_c1, cw_c2, cw_c3, cw_c4, cw_c5, cw_c8, cw_c10, cw_c40, cw_c80, cw_c100, cp_144z, cp_140n, cw_mabs, cw_mod8, decide_eq_true_eq, not_false_eq_true, not_true_eq_false, true_and, and_true, false_and, and_false, decide_eq_false_iff_not, Nat.not_lt, Nat.not_le, e5, cp_138, ce_i99w, h]
    refine cw_m (fun _ => cd_s232_20) ?_
    simp (disch := omega) only [cw_l0, cw_l1, cw_l2, cw_l3, cw_l4, cw_l5, cw_l6, cw_l7, cw_l8, cw_l9, cw_l10, cw_l11, cw_l12, cw_l13, cw_l14, cw_l15, cw_l16, cw_l17, cw_l18, cw_l19, cw_l20, cw_l27, cw_l28, cw_l31, cw_l32, cw_l40, cw_l52, cw_l60, cw_l61, cw_l63, cw_l64, cw_l80, cw_l97, cw_l99, cw_l100, cw_l255, cw_l500, cw_l999, cw_l65536, cd_inN, nI_clamp, nI_add, pk_mul, cw_subc, cw_zz, pk_div, cw_ltN, cw_eqN, cw_tf0, cw_tf1, cw_tfa, cw_bi, cw_bl, cw_bv, if_true, if_false, Bool.false_eq_true, Bool.true_eq_false, ite_self, cw_neg1, cw_m1a, cw_ztl, cw_zeq, cw_zadd, cw_znadd, cw_nzadd, cw_zsub, cw_zmul, cw_znmul, cw_nzmul, cw_ltNZ, cw_eqZN, cw_eqNZ, cw_ltZN, cw_on, cw_os, cw_c0, cw_c1, cw_c2, cw_c3, cw_c4, cw_c5, cw_c8, cw_c10, cw_c40, cw_c80, cw_c100, cp_144z, cp_140n, cw_mabs, cw_mod8, decide_eq_true_eq, not_false_eq_true, not_true_eq_false, true_and, and_true, false_and, and_false, decide_eq_false_iff_not, Nat.not_lt, Nat.not_le]
    exact cw_ret ⟨rfl, hM, ce_fC.rf⟩
/-- fasten, its arguments checked -/
theorem cp_232a (hK : ce_ok D S Y) (hM : ce_M D S Y I) {k v : Nat} {z : Int32} {Q : Option Value → (Nat → Nat → Int32) → (Nat → Nat → Int64) → Prop} (hk : k < D 0 2) (hv : v < 5) (hz : v = 2 → ce_i99 z = true) (h : cw L w (cd_go 232 36 [.ref 100, .int (nI k), .int (nI v), .int z, .null] [.int (cd_tf (cd_und D (D 11 k) (S 1 (D 12 k))))] (cd_mm L w I J)) Q) : cw L w (cd_c 232 [.ref 100, .int (nI k), .int (nI v), .int z] (cd_mm L w I J)) Q := by
  have h8 := hK.1.1.1
  have h12 := hK.1.1.2.2.1
  have hx := ce_ix_n hk (by omega)
  have h5 := ce_ix_n hv (by decide)
  have e := ce_ixl (x := nI v) (n := 5) (h := 4) rfl (by decide)
  obtain ⟨d11, d12⟩ := hK.1.2.2.2 k hk
  obtain ⟨m11, m12⟩ := hM.1.2.2.2 k hk
  have m1 := (hM.2.1.1 _ d12).1
  have c0 := cp_150 (L := L) (w := w) (J := J) hK.1 hM.1 d11 (hK.2.1.1.1 _ d12)
  have tail : cw L w (cd_go 232 23 [.ref 100, .int (nI k), .int (nI v), .int z, .null] [] (cd_mm L w I J)) Q := by
    refine cw_m (fun _ => cd_s232_23) ?_
    simp (disch := omega) only [cw_l0, cw_l1, cw_l2, cw_l3, cw_l4, cw_l5, cw_l6, cw_l7, cw_l8, cw_l9, cw_l10, cw_l11, cw_l12, cw_l13, cw_l14, cw_l15, cw_l16, cw_l17, cw_l18, cw_l19, cw_l20, cw_l27, cw_l28, cw_l31, cw_l32, cw_l40, cw_l52, cw_l60, cw_l61, cw_l63, cw_l64, cw_l80, cw_l97, cw_l99, cw_l100, cw_l255, cw_l500, cw_l999, cw_l65536, cd_inN, nI_clamp, nI_add, pk_mul, cw_subc, cw_zz, pk_div, cw_ltN, cw_eqN, cw_tf0, cw_tf1, cw_tfa, cw_bi, cw_bl, cw_bv, if_true, if_false, Bool.false_eq_true, Bool.true_eq_false, ite_self, cw_neg1, cw_m1a, cw_ztl, cw_zeq, cw_zadd, cw_znadd, cw_nzadd, cw_zsub, cw_zmul, cw_znmul, cw_nzmul, cw_ltNZ, cw_eqZN, cw_eqNZ, cw_ltZN, cw_on, cw_os, cw_c0, cw_c1, cw_c2, cw_c3, cw_c4, cw_c5, cw_c8, cw_c10, cw_c40, cw_c80, cw_c100, cp_144z, cp_140n, cw_mabs, cw_mod8, decide_eq_true_eq, not_false_eq_true, not_true_eq_false, true_and, and_true, false_and, and_false, decide_eq_false_iff_not, Nat.not_lt, Nat.not_le, if_pos, if_neg, m11, m12, m1, c0]
    exact h
  refine cw_c (l := [_, _, _, _, _]) rfl rfl ?_
  refine cw_m (fun _ => cd_s232_0) ?_
  simp (disch := omega) only [cw_l0, cw_l1, cw_l2, cw_l3, cw_l4, cw_l5, cw_l6, cw_l7, cw_l8, cw_l9, cw_l10, cw_l11, cw_l12, cw_l13, cw_l14, cw_l15, cw_l16, cw_l17, cw_l18, cw_l19, cw_l20, cw_l27, cw_l28, cw_l31, cw_l32, cw_l40, cw_l52, cw_l60, cw_l61, cw_l63, cw_l64, cw_l80, cw_l97, cw_l99, cw_l100, cw_l255, cw_l500, cw_l999, cw_l65536, cd_inN, nI_clamp, nI_add, pk_mul, cw_subc, cw_zz, pk_div, cw_ltN, cw_eqN, cw_tf0, cw_tf1, cw_tfa, cw_bi, cw_bl, cw_bv, if_true, if_false, Bool.false_eq_true, Bool.true_eq_false, ite_self, cw_neg1, cw_m1a, cw_ztl, cw_zeq, cw_zadd, cw_znadd, cw_nzadd, cw_zsub, cw_zmul, cw_znmul, cw_nzmul, cw_ltNZ, cw_eqZN, cw_eqNZ, cw_ltZN, cw_on, cw_os, cw_c0, cw_c1, cw_c2, cw_c3, cw_c4, cw_c5, cw_c8, cw_c10, cw_c40, cw_c80, cw_c100, cp_144z, cp_140n, cw_mabs, cw_mod8, decide_eq_true_eq, not_false_eq_true, not_true_eq_false, true_and, and_true, false_and, and_false, decide_eq_false_iff_not, Nat.not_lt, Nat.not_le, cp_142 hM.1 hK.1, hx]
  refine cw_m (fun _ => cd_s232_3) ?_
  simp (disch := omega) only [cw_l0, cw_l1, cw_l2, cw_l3, cw_l4, cw_l5, cw_l6, cw_l7, cw_l8, cw_l9, cw_l10, cw_l11, cw_l12, cw_l13, cw_l14, cw_l15, cw_l16, cw_l17, cw_l18, cw_l19, cw_l20, cw_l27, cw_l28, cw_l31, cw_l32, cw_l40, cw_l52, cw_l60, cw_l61, cw_l63, cw_l64, cw_l80, cw_l97, cw_l99, cw_l100, cw_l255, cw_l500, cw_l999, cw_l65536, cd_inN, nI_clamp, nI_add, pk_mul, cw_subc, cw_zz, pk_div, cw_ltN, cw_eqN, cw_tf0, cw_tf1, cw_tfa, cw_bi, cw_bl, cw_bv, if_true, if_false, Bool.false_eq_true, Bool.true_eq_false, ite_self, cw_neg1, cw_m1a, cw_ztl, cw_zeq, cw_zadd, cw_znadd, cw_nzadd, cw_zsub, cw_zmul, cw_znmul, cw_nzmul, cw_ltNZ, cw_eqZN, cw_eqNZ, cw_ltZN, cw_on, cw_os, cw_c0, cw_c1, cw_c2, cw_c3, cw_c4, cw_c5, cw_c8, cw_c10, cw_c40, cw_c80, cw_c100, cp_144z, cp_140n, cw_mabs, cw_mod8, decide_eq_true_eq, not_false_eq_true, not_true_eq_false, true_and, and_true, false_and, and_false, decide_eq_false_iff_not, Nat.not_lt, Nat.not_le, cp_138, e, h5]
  refine cw_m (fun _ => cd_s232_11) ?_
  by_cases h2 : v = 2
  · simp (disch := omega) only [cw_l0, cw_l1, cw_l2, cw_l3, cw_l4, cw_l5, cw_l6, cw_l7, cw_l8, cw_l9, cw_l10, cw_l11, cw_l12, cw_l13, cw_l14, cw_l15, cw_l16, cw_l17, cw_l18, cw_l19, cw_l20, cw_l27, cw_l28, cw_l31, cw_l32, cw_l40, cw_l52, cw_l60, cw_l61, cw_l63, cw_l64, cw_l80, cw_l97, cw_l99, cw_l100, cw_l255, cw_l500, cw_l999, cw_l65536, cd_inN, nI_clamp, nI_add, pk_mul, cw_subc, cw_zz, pk_div, cw_ltN, cw_eqN, cw_tf0, cw_tf1, cw_tfa, cw_bi, cw_bl, cw_bv, if_true, if_false, Bool.false_eq_true, Bool.true_eq_false, ite_self, cw_neg1, cw_m1a, cw_ztl, cw_zeq, cw_zadd, cw_znadd, cw_nzadd, cw_zsub, cw_zmul, cw_znmul, cw_nzmul, cw_ltNZ, cw_eqZN, cw_eqNZ, cw_ltZN, cw_on, cw_os, cw_c0, cw_c1, cw_c2, cw_c3, cw_c4, cw_c5, cw_c8, cw_c10, cw_c40, cw_c80, cw_c100, cp_144z, cp_140n, cw_mabs, cw_mod8, decide_eq_true_eq, not_false_eq_true, not_true_eq_false, true_and, and_true, false_and, and_false, decide_eq_false_iff_not, Nat.not_lt, Nat.not_le, if_pos, if_neg, cp_138, ce_i99w, hz h2]
    refine cw_m (fun _ => cd_s232_20) ?_
    simp (disch := omega) only [cw_l0, cw_l1, cw_l2, cw_l3, cw_l4, cw_l5, cw_l6, cw_l7, cw_l8, cw_l9, cw_l10, cw_l11, cw_l12, cw_l13, cw_l14, cw_l15, cw_l16, cw_l17, cw_l18, cw_l19, cw_l20, cw_l27, cw_l28, cw_l31, cw_l32, cw_l40, cw_l52, cw_l60, cw_l61, cw_l63, cw_l64, cw_l80, cw_l97, cw_l99, cw_l100, cw_l255, cw_l500, cw_l999, cw_l65536, cd_inN, nI_clamp, nI_add, pk_mul, cw_subc, cw_zz, pk_div, cw_ltN, cw_eqN, cw_tf0, cw_tf1, cw_tfa, cw_bi, cw_bl, cw_bv, if_true, if_false, Bool.false_eq_true, Bool.true_eq_false, ite_self, cw_neg1, cw_m1a, cw_ztl, cw_zeq, cw_zadd, cw_znadd, cw_nzadd, cw_zsub, cw_zmul, cw_znmul, cw_nzmul, cw_ltNZ, cw_eqZN, cw_eqNZ, cw_ltZN, cw_on, cw_os, cw_c0, cw_c1, cw_c2, cw_c3, cw_c4, cw_c5, cw_c8, cw_c10, cw_c40, cw_c80, cw_c100, cp_144z, cp_140n, cw_mabs, cw_mod8, decide_eq_true_eq, not_false_eq_true, not_true_eq_false, true_and, and_true, false_and, and_false, decide_eq_false_iff_not, Nat.not_lt, Nat.not_le]
    exact tail
  · simp (disch := omega) only [cw_l0, cw_l1, cw_l2, cw_l3, cw_l4, cw_l5, cw_l6, cw_l7, cw_l8, cw_l9, cw_l10, cw_l11, cw_l12, cw_l13, cw_l14, cw_l15, cw_l16, cw_l17, cw_l18, cw_l19, cw_l20, cw_l27, cw_l28, cw_l31, cw_l32, cw_l40, cw_l52, cw_l60, cw_l61, cw_l63, cw_l64, cw_l80, cw_l97, cw_l99, cw_l100, cw_l255, cw_l500, cw_l999, cw_l65536, cd_inN, nI_clamp, nI_add, pk_mul, cw_subc, cw_zz, pk_div, cw_ltN, cw_eqN, cw_tf0, cw_tf1, cw_tfa, cw_bi, cw_bl, cw_bv, if_true, if_false, Bool.false_eq_true, Bool.true_eq_false, ite_self, cw_neg1, cw_m1a, cw_ztl, cw_zeq, cw_zadd, cw_znadd, cw_nzadd, cw_zsub, cw_zmul, cw_znmul, cw_nzmul, cw_ltNZ, cw_eqZN, cw_eqNZ, cw_ltZN, cw_on, cw_os, cw_c0, cw_c1, cw_c2, cw_c3, cw_c4, cw_c5, cw_c8, cw_c10, cw_c40, cw_c80, cw_c100, cp_144z, cp_140n, cw_mabs, cw_mod8, decide_eq_true_eq, not_false_eq_true, not_true_eq_false, true_and, and_true, false_and, and_false, decide_eq_false_iff_not, Nat.not_lt, Nat.not_le, if_pos, if_neg]
    exact tail
theorem cp_232m (hK : ce_ok D S Y) (hM : ce_M D S Y I) {k v : Nat} {z : Int32} (hk : k < D 0 2) (hv : v < 5) (hz : v = 2 → ce_i99 z = true) (hu : cd_und D (D 11 k) (S 1 (D 12 k)) = false) : cw L w (cd_c 232 [.ref 100, .int (nI k), .int (nI v), .int z] (cd_mm L w I J)) (ce_post (.int (-1003)) D S Y I J) := by
  refine cp_232a hK hM hk hv hz ?_
  rw [hu]
  refine cw_m (fun _ => cd_s232_36) ?_
  simp (disch := omega) only [cw_l0, cw_l1, cw_l2, cw_l3, cw_l4, cw_l5, cw_l6, cw_l7, cw_l8, cw_l9, cw_l10, cw_l11, cw_l12, cw_l13, cw_l14, cw_l15, cw_l16, cw_l17, cw_l18, cw_l19, cw_l20, cw_l27, cw_l28, cw_l31, cw_l32, cw_l40, cw_l52, cw_l60, cw_l61, cw_l63, cw_l64, cw_l80, cw_l97, cw_l99, cw_l100, cw_l255, cw_l500, cw_l999, cw_l65536, cd_inN, nI_clamp, nI_add, pk_mul, cw_subc, cw_zz, pk_div, cw_ltN, cw_eqN, cw_tf0, cw_tf1, cw_tfa, cw_bi, cw_bl, cw_bv, if_true, if_false, Bool.false_eq_true, Bool.true_eq_false, ite_self, cw_neg1, cw_m1a, cw_ztl, cw_zeq, cw_zadd, cw_znadd, cw_nzadd, cw_zsub, cw_zmul, cw_znmul, cw_nzmul, cw_ltNZ, cw_eqZN, cw_eqNZ, cw_ltZN, cw_on, cw_os, cw_c0, cw_c1, cw_c2, cw_c3, cw_c4, cw_c5, cw_c8, cw_c10, cw_c40, cw_c80, cw_c100, cp_144z, cp_140n, cw_mabs, cw_mod8, decide_eq_true_eq, not_false_eq_true, not_true_eq_false, true_and, and_true, false_and, and_false, decide_eq_false_iff_not, Nat.not_lt, Nat.not_le]
  exact cw_ret ⟨rfl, hM, ce_fC.rf⟩
theorem ce_fas_M (hM : ce_M D S Y I) {k v b : Nat} (hD : cd_okD D) (hk : k < D 0 2) : ce_M D (ce_fas S k v b) Y (cd_up (cd_up (cd_up I 110 k (nI v)) 111 k (nI b)) 112 k (nI 1)) := by
  have f : ∀ a j, ¬ (110 ≤ a ∧ a ≤ 112) → cd_up (cd_up (cd_up I 110 k (nI v)) 111 k (nI b)) 112 k (nI 1) a j = I a j := fun a j h => by
    rw [cd_up_a (by omega), cd_up_a (by omega), cd_up_a (by omega)]
  refine ⟨hM.1.of (fun a j h1 h2 => f a j (by omega)), ⟨fun t ht => ?_, fun j hj => ?_⟩, ?_, ?_, hM.2.2.2.2.of hD (fun a j h => f a j (by omega))⟩
  · rw [f _ _ (by omega), f _ _ (by omega)]
    exact hM.2.1.1 t ht
  · obtain ⟨q1, q2, q3⟩ := hM.2.1.2 j hj
    rw [cd_up_a (show (110 : Nat) ≠ 112 by decide), cd_up_a (show (110 : Nat) ≠ 111 by decide), cd_up_a (show (111 : Nat) ≠ 112 by decide)]
    show _ = nI (bif true && Nat.beq j k then v else S 2 j) ∧ _ = nI (bif true && Nat.beq j k then b else S 3 j) ∧ _ = cd_tf ((S 0 2 ||| 2 ^ k).testBit j)
    rw [Nat.testBit_or, ce_2tb, Bool.true_and, cw_beq]
    by_cases hjk : j = k
    · subst hjk
      rw [cd_up_s, cd_up_s, cd_up_s, decide_eq_true rfl, Bool.or_true]
      exact ⟨rfl, rfl, rfl⟩
    · rw [cd_up_k hjk, cd_up_k hjk, cd_up_k hjk, cd_up_k hjk, cd_up_k hjk, cd_up_k hjk, decide_eq_false hjk, decide_eq_false (fun q => hjk q.symm), Bool.or_false]
      exact ⟨q1, q2, q3⟩
  · rw [f _ _ (by omega)]; exact hM.2.2.1
  · rw [f _ _ (by omega)]; exact hM.2.2.2.1
theorem cp_232 (hK : ce_ok D S Y) (hM : ce_M D S Y I) {k v b : Nat} {z : Int32} (hk : k < D 0 2) (hv : v < 5) (hz : v = 2 → z = nI b ∧ 1 ≤ b ∧ b ≤ 99) (hb : v ≠ 2 → b = 0) (hu : cd_und D (D 11 k) (S 1 (D 12 k)) = true) : cw L w (cd_c 232 [.ref 100, .int (nI k), .int (nI v), .int z] (cd_mm L w I J)) (ce_post (.int (nI (S 2 k))) D (ce_fas S k v b) Y I J) := by
  have h12 := hK.1.1.2.2.1
  refine cp_232a hK hM hk hv (fun h => by obtain ⟨h1, h2, h3⟩ := hz h; rw [h1]; exact ce_i99_n h2 h3) ?_
  rw [hu]
  have m2 := (hM.2.1.2 k hk).1
  have hF : ce_fC I J (cd_up (cd_up (cd_up I 110 k (nI v)) 111 k (nI b)) 112 k (nI 1)) J := ce_fCr (fun a j h => by rw [cd_up_a (by omega), cd_up_a (by omega), cd_up_a (by omega)])
  have hM2 := ce_fas_M (v := v) (b := b) hM hK.1 hk
  refine cw_m (fun _ => cd_s232_36) ?_
  by_cases h2 : v = 2
  · obtain ⟨h1, -⟩ := hz h2
    rw [h1]
    simp (disch := omega) only [cw_l0, cw_l1, cw_l2, cw_l3, cw_l4, cw_l5, cw_l6, cw_l7, cw_l8, cw_l9, cw_l10, cw_l11, cw_l12, cw_l13, cw_l14, cw_l15, cw_l16, cw_l17, cw_l18, cw_l19, cw_l20, cw_l27, cw_l28, cw_l31, cw_l32, cw_l40, cw_l52, cw_l60, cw_l61, cw_l63, cw_l64, cw_l80, cw_l97, cw_l99, cw_l100, cw_l255, cw_l500, cw_l999, cw_l65536, cd_inN, nI_clamp, nI_add, pk_mul, cw_subc, cw_zz, pk_div, cw_ltN, cw_eqN, cw_tf0, cw_tf1, cw_tfa, cw_bi, cw_bl, cw_bv, if_true, if_false, Bool.false_eq_true, Bool.true_eq_false, ite_self, cw_neg1, cw_m1a, cw_ztl, cw_zeq, cw_zadd, cw_znadd, cw_nzadd, cw_zsub, cw_zmul, cw_znmul, cw_nzmul, cw_ltNZ, cw_eqZN, cw_eqNZ, cw_ltZN, cw_on, cw_os, cw_c0, cw_c1, cw_c2, cw_c3, cw_c4, cw_c5, cw_c8, cw_c10, cw_c40, cw_c80, cw_c100, cp_144z, cp_140n, cw_mabs, cw_mod8, decide_eq_true_eq, not_false_eq_true, not_true_eq_false, true_and, and_true, false_and, and_false, decide_eq_false_iff_not, Nat.not_lt, Nat.not_le, if_pos, if_neg, m2]
    exact cw_ret ⟨rfl, hM2, hF⟩
  · rw [hb h2] at hM2 hF ⊢
    simp (disch := omega) only [cw_l0, cw_l1, cw_l2, cw_l3, cw_l4, cw_l5, cw_l6, cw_l7, cw_l8, cw_l9, cw_l10, cw_l11, cw_l12, cw_l13, cw_l14, cw_l15, cw_l16, cw_l17, cw_l18, cw_l19, cw_l20, cw_l27, cw_l28, cw_l31, cw_l32, cw_l40, cw_l52, cw_l60, cw_l61, cw_l63, cw_l64, cw_l80, cw_l97, cw_l99, cw_l100, cw_l255, cw_l500, cw_l999, cw_l65536, cd_inN, nI_clamp, nI_add, pk_mul, cw_subc, cw_zz, pk_div, cw_ltN, cw_eqN, cw_tf0, cw_tf1, cw_tfa, cw_bi, cw_bl, cw_bv, if_true, if_false, Bool.false_eq_true, Bool.true_eq_false, ite_self, cw_neg1, cw_m1a, cw_ztl, cw_zeq, cw_zadd, cw_znadd, cw_nzadd, cw_zsub, cw_zmul, cw_znmul, cw_nzmul, cw_ltNZ, cw_eqZN, cw_eqNZ, cw_ltZN, cw_on, cw_os, cw_c0, cw_c1, cw_c2, cw_c3, cw_c4, cw_c5, cw_c8, cw_c10, cw_c40, cw_c80, cw_c100, cp_144z, cp_140n, cw_mabs, cw_mod8, decide_eq_true_eq, not_false_eq_true, not_true_eq_false, true_and, and_true, false_and, and_false, decide_eq_false_iff_not, Nat.not_lt, Nat.not_le, if_pos, if_neg, m2]
    exact cw_ret ⟨rfl, hM2, hF⟩
/-- seed -/
theorem cp_241n (hM : ce_M D S Y I) {x : Int32} (hx : x < 0) : cw L w (cd_c 241 [.ref 100, .int x] (cd_mm L w I J)) (ce_post (.int (-1002)) D S Y I J) := by
  refine cw_c (l := [_, _, _]) rfl rfl ?_
  refine cw_m (fun _ => cd_s241_0) ?_
  rw [if_pos hx]
  exact cw_ret ⟨rfl, hM, ce_fC.rf⟩
theorem ce_M.seed (hM : ce_M D S Y I) (hD : cd_okD D) (v : Nat) : ce_M D (ce_s3 S v) Y (cd_up I 100 56 (nI v)) := ⟨hM.1.of (fun a k h1 h2 => cd_up_k2 (by omega)), hM.2.1.of (fun a k h => cd_up_a (by omega)), (cd_up_k (by decide)).trans hM.2.2.1, cd_up_s, hM.2.2.2.2.of hD (fun a k h => cd_up_k2 (by omega))⟩
theorem cp_241 (hK : ce_ok D S Y) (hM : ce_M D S Y I) {v : Nat} (hv : v < 2 ^ 31) : cw L w (cd_c 241 [.ref 100, .int (nI v)] (cd_mm L w I J)) (ce_post (.int (nI (S 0 3))) D (ce_s3 S v) Y I J) := by
  refine cw_c (l := [_, _, _]) rfl rfl ?_
  refine cw_m (fun _ => cd_s241_0) ?_
  rw [if_neg (nI_pos hv), hM.2.2.2.1]
  exact cw_ret ⟨rfl, hM.seed hK.1 v, ce_fCr (fun a k h => cd_up_a (by omega))⟩
/-- the next of the seed -/
def ce_sd (v : Nat) : Nat := (v * 1103515245 + 12345) % 2147483648
theorem ce_sd_lt (v : Nat) : ce_sd v < 2 ^ 31 := Nat.mod_lt _ (by decide)
theorem ce_sdI {v : Nat} (hv : v < 2 ^ 31) : ((((nI v).toInt64 * 1103515245) + 12345) - (((nI v).toInt64 * 1103515245) + 12345) / 2147483648 * 2147483648).toInt32 = nI (ce_sd v) := by
  rw [nI_l hv, show (1103515245 : Int64) = lN 1103515245 from rfl, show (12345 : Int64) = lN 12345 from rfl, show (2147483648 : Int64) = lN 2147483648 from rfl, lN_mul, lN_add, pk_lRem (by omega) (by decide) (by decide), lN_i]
  rfl
theorem cp_242 (hM : ce_M D S Y I) (hs : S 0 3 < 2 ^ 31) {n : Nat} (h0 : 0 < n) (hn : n < 2 ^ 20) : cd_c 242 [.ref 100, .int (nI n)] (cd_mm L w I J) = some (some (.int (nI (ce_sd (S 0 3) / 65536 % n))), cd_mm L w (cd_up I 100 56 (nI (ce_sd (S 0 3)))) J) := by
  refine cw_eq ?_
  have hl := ce_sd_lt (S 0 3)
  have hr : nI (ce_sd (S 0 3)) / 65536 - nI (ce_sd (S 0 3)) / 65536 / nI n * nI n = nI (ce_sd (S 0 3) / 65536 % n) := by
    rw [show (65536 : Int32) = nI 65536 from rfl, pk_div (by omega) (by decide) (by decide), pk_rem (by omega) h0 (by omega)]
  refine cw_c (l := [_, _]) rfl rfl ?_
  refine cw_m (fun _ => cd_s242_0) ?_
  rw [hM.2.2.2.1, ce_sdI hs, cd_up_s, if_neg (nI_ne0 h0 (by omega)), hr]
  exact cw_ret ⟨rfl, rfl, rfl⟩
end CEV
