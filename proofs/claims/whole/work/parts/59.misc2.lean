/-! ===== the reference: bumps, images, wants met, the text fed ===== -/
/-- bumps by draws: state, events of the last rest, how many in all -/
def ce_b1 (X : cd_S × List (Nat × Nat) × Nat) : Nat := ce_sd (X.1 0 3)
def ce_b2 (X : cd_S × List (Nat × Nat) × Nat) : Nat := ce_sd (ce_sd (X.1 0 3))
def ce_bR (D : cd_D) (b : Nat) (X : cd_S × List (Nat × Nat) × Nat) : List (Nat × Nat) × cd_S := ce_run D 60 (ce_s3 X.1 (ce_b2 X)) (some (ce_b1 X / 65536 % D 0 0)) (ce_b2 X / 65536 % (b + 1))
def ce_bs (D : cd_D) (b : Nat) (X : cd_S × List (Nat × Nat) × Nat) : cd_S × List (Nat × Nat) × Nat := ((ce_bR D b X).2, (ce_bR D b X).1, X.2.2 + (ce_bR D b X).1.length)
def ce_bu (D : cd_D) (b : Nat) (S : cd_S) (E : List (Nat × Nat)) : Nat → cd_S × List (Nat × Nat) × Nat
  | 0 => (S, E, 0)
  | i + 1 => ce_bs D b (ce_bu D b S E i)
theorem ce_bu_s (D : cd_D) (b : Nat) (S : cd_S) (E : List (Nat × Nat)) (i : Nat) : ce_bu D b S E (i + 1) = ce_bs D b (ce_bu D b S E i) := rfl
theorem ce_s3_3 (S : cd_S) (v : Nat) : ce_s3 S v 0 3 = v := rfl
theorem cd_up_up {α : Type} {f : Nat → Nat → α} {a k : Nat} {v z : α} : cd_up (cd_up f a k v) a k z = cd_up f a k z := by
  funext b j
  unfold cd_up
  by_cases hb : b = a
  · by_cases hj : j = k
    · simp [hb, hj]
    · simp [hb, hj]
  · simp [hb]
theorem ceE_SE (Y : ce_Y) (E : List (Nat × Nat)) : ceE (ceSE Y E) = E := rfl
theorem ce_okY.SE {D : cd_D} {Y : ce_Y} (h : ce_okY D Y) {E : List (Nat × Nat)} (h1 : E.length ≤ 60) (h2 : ∀ j, j < E.length → (E.getD j (0, 0)).1 < 3 ∧ (E.getD j (0, 0)).2 < 12) : ce_okY D (ceSE Y E) := ⟨⟨h.1.1, h.1.2.1, h.1.2.2.1, h.1.2.2.2.1, h1⟩, h.2.1, h.2.2.1, h2, h.2.2.2.2⟩
theorem ce_ok.run {D : cd_D} {S : cd_S} {Y : ce_Y} (h : ce_ok D S Y) (o : Option Nat) (b : Nat) : ce_ok D (ce_run D 60 S o b).2 (ceSE Y (ce_run D 60 S o b).1) := ⟨h.1, ce_run_okT 60 o b h.2.1, h.2.2.SE (ce_run_len 60 o b) (ce_run_ev h.1 60 o b)⟩
theorem ce_bs_ok {D : cd_D} {Y : ce_Y} {X : cd_S × List (Nat × Nat) × Nat} (h : ce_ok D X.1 (ceSE Y X.2.1)) (b : Nat) : ce_ok D (ce_bs D b X).1 (ceSE Y (ce_bs D b X).2.1) ∧ (ce_bs D b X).2.2 ≤ X.2.2 + 60 := by
  have h2 : ce_ok D (ce_s3 X.1 (ce_b2 X)) (ceSE Y X.2.1) := ⟨h.1, ce_s3_ok h.2.1 (ce_sd_lt _), h.2.2⟩
  have h3 := h2.run (some (ce_b1 X / 65536 % D 0 0)) (ce_b2 X / 65536 % (b + 1))
  have hl := ce_run_len (D := D) 60 (S := ce_s3 X.1 (ce_b2 X)) (some (ce_b1 X / 65536 % D 0 0)) (ce_b2 X / 65536 % (b + 1))
  exact ⟨h3, Nat.add_le_add_left hl _⟩
theorem ce_bu_ok {D : cd_D} {S : cd_S} {Y : ce_Y} (h : ce_ok D S Y) (b : Nat) : ∀ i, ce_ok D (ce_bu D b S (ceE Y) i).1 (ceSE Y (ce_bu D b S (ceE Y) i).2.1) ∧ (ce_bu D b S (ceE Y) i).2.2 ≤ 60 * i := by
  intro i
  induction i with
  | zero => exact ⟨h, Nat.zero_le _⟩
  | succ i ih =>
    rw [ce_bu_s]
    obtain ⟨h1, h2⟩ := ce_bs_ok ih.1 b
    exact ⟨h1, by omega⟩
/-- image i becomes S -/
def ceSK (Y : ce_Y) (i : Nat) (S : cd_S) : ce_Y := (Y.1, Y.2.1, Y.2.2.1, Y.2.2.2.1, Y.2.2.2.2.1, Y.2.2.2.2.2.1, (fun j => if j = i then true else Y.2.2.2.2.2.2.1 j), (fun j => if j = i then S else Y.2.2.2.2.2.2.2 j))
theorem ce_okY.SK {D : cd_D} {Y : ce_Y} (h : ce_okY D Y) {S : cd_S} (hS : ce_okT D S) (i : Nat) : ce_okY D (ceSK Y i S) := ⟨h.1, h.2.1, h.2.2.1, h.2.2.2.1, fun j hj hb => by
  show ce_okT D (if j = i then S else Y.2.2.2.2.2.2.2 j)
  replace hb : (if j = i then true else Y.2.2.2.2.2.2.1 j) = true := hb
  by_cases hji : j = i
  · rw [if_pos hji]; exact hS
  · rw [if_neg hji]; rw [if_neg hji] at hb; exact h.2.2.2.2 j hj hb⟩
theorem ce_im.of2 {D : cd_D} {S : cd_S} {I I1 : Nat → Nat → Int32} {z : Nat} (h : ce_im D S z I) (g : ∀ k, z ≤ k → k < z + 60 → I1 125 k = I 125 k) (h8 : D 0 0 ≤ 8) (h12 : D 0 2 ≤ 12) : ce_im D S z I1 := by
  refine ⟨fun t ht => ?_, fun k hk => ?_, ?_⟩
  · rw [g _ (by omega) (by omega), g _ (by omega) (by omega)]; exact h.1 t ht
  · rw [g _ (by omega) (by omega), g _ (by omega) (by omega), g _ (by omega) (by omega)]; exact h.2.1 k hk
  · rw [g _ (by omega) (by omega)]; exact h.2.2
section CEW
variable {L : Nat} {w : Bool} {I : Nat → Nat → Int32} {J : Nat → Nat → Int64} {D : cd_D} {S : cd_S}
variable {Y : ce_Y} {T : cd_S}
theorem cp_243n (hM : ce_M D S Y I) {x y : Int32} (hx : ce_ih x = false ∨ ce_ix y 1000 = false) : cw L w (cd_c 243 [.ref 100, .int x, .int y] (cd_mm L w I J)) (ce_post (.int (-1002)) D S Y I J) := by
  refine cw_c (l := [_, _, _, _, _, _]) rfl rfl ?_
  refine cw_m (fun _ => cd_s243_0) ?_
  simp (disch := omega) only [cw_l0, cw_l1, cw_l2, cw_l3, cw_l4, cw_l5, cw_l6, cw_l7, cw_l8, cw_l9, cw_l10, cw_l11, cw_l12, cw_l13, cw_l14, cw_l15, cw_l16, cw_l17, cw_l18, cw_l19, cw_l20, cw_l27, cw_l28, cw_l31, cw_l32, cw_l40, cw_l52, cw_l60, cw_l61, cw_l63, cw_l64, cw_l80, cw_l97, cw_l99, cw_l100, cw_l255, cw_l500, cw_l999, cw_l65536, cd_inN, nI_clamp, nI_add, pk_mul, cw_subc, cw_zz, pk_div, cw_ltN, cw_eqN, cw_tf0, cw_tf1, cw_tfa, cw_bi, cw_bl, cw_bv, if_true, if_false, Bool.false_eq_true, Bool.true_eq_false, ite_self, cw_neg1, cw_m1a, cw_ztl, cw_zeq, cw_zadd, cw_znadd, cw_nzadd, cw_zsub, cw_zmul, cw_znmul, cw_nzmul, cw_ltNZ, cw_eqZN, cw_eqNZ, cw_ltZN, cw_on, cw_os, cw_c0, cw_c1, cw_c2, cw_c3, cw_c4, cw_c5, cw_c8, cw_c10, cw_c40, cw_c80, cw_c100, cp_144z, cp_140n, cw_mabs, cw_mod8, decide_eq_true_eq, not_false_eq_true, not_true_eq_false, true_and, and_true, false_and, and_false, decide_eq_false_iff_not, Nat.not_lt, Nat.not_le, cp_138, ce_ihw]
  refine cw_m (fun _ => cd_s243_5) ?_
  cases h1 : ce_ih x with
  | false =>
    simp (disch := omega) only [cw_l0, cw_l1, cw_l2, cw_l3, cw_l4, cw_l5, cw_l6, cw_l7, cw_l8, cw_l9, cw_l10, cw_l11, cw_l12, cw_l13, cw_l14, cw_l15, cw_l16, cw_l17, cw_l18, cw_l19, cw_l20, cw_l27, cw_l28, cw_l31, cw_l32, cw_l40, cw_l52, cw_l60, cw_l61, cw_l63, cw_l64, cw_l80, cw_l97, cw_l99, cw_l100, cw_l255, cw_l500, cw_l999, cw_l65536, cd_inN, nI_clamp, nI_add, pk_mul, cw_subc, cw_zz, pk_div, cw_ltN, cw_eqN, cw_tf0, cw_tf1, cw_tfa, cw_bi, cw_bl, cw_bv, if_true, if_false, Bool.false_eq_true, Bool.true_eq_false, ite_self, cw_neg1, cw_m1a, cw_ztl, cw_zeq, cw_zadd, cw_znadd, cw_nzadd, cw_zsub, cw_zmul, cw_znmul, cw_nzmul, cw_ltNZ, cw_eqZN, cw_eqNZ, cw_ltZN, cw_on, cw_os, cw_c0, cw_c1, cw_c2, cw_c3, cw_c4, cw_c5, cw_c8, cw_c10, cw_c40, cw_c80, cw_c100, cp_144z, cp_140n, cw_mabs, cw_mod8, decide_eq_true_eq, not_false_eq_true, not_true_eq_false, true_and, and_true, false_and, and_false, decide_eq_false_iff_not, Nat.not_lt, Nat.not_le]
    exact cw_ret ⟨rfl, hM, ce_fC.rf⟩
  | true =>
    have h2 : ce_ix y 1000 = false := by
      rcases hx with h | h
      · rw [h1] at h; cases h
      · exact h
    simp (disch := omega) only [cw_l0, cw_l1, cw_l2, cw_l3, cw_l4, cw_l5, cw_l6, cw_l7, cw_l8, cw_l9, cw_l10, cw_l11, cw_l12, cw_l13, cw_l14, cw_l15, cw_l16, cw_l17, cw_l18, cw_l19, cw_l20, cw_l27, cw_l28, cw_l31, cw_l32, cw_l40, cw_l52, cw_l60, cw_l61, cw_l63, cw_l64, cw_l80, cw_l97, cw_l99, cw_l100, cw_l255, cw_l500, cw_l999, cw_l65536, cd_inN, nI_clamp, nI_add, pk_mul, cw_subc, cw_zz, pk_div, cw_ltN, cw_eqN, cw_tf0, cw_tf1, cw_tfa, cw_bi, cw_bl, cw_bv, if_true, if_false, Bool.false_eq_true, Bool.true_eq_false, ite_self, cw_neg1, cw_m1a, cw_ztl, cw_zeq, cw_zadd, cw_znadd, cw_nzadd, cw_zsub, cw_zmul, cw_znmul, cw_nzmul, cw_ltNZ, cw_eqZN, cw_eqNZ, cw_ltZN, cw_on, cw_os, cw_c0, cw_c1, cw_c2, cw_c3, cw_c4, cw_c5, cw_c8, cw_c10, cw_c40, cw_c80, cw_c100, cp_144z, cp_140n, cw_mabs, cw_mod8, decide_eq_true_eq, not_false_eq_true, not_true_eq_false, true_and, and_true, false_and, and_false, decide_eq_false_iff_not, Nat.not_lt, Nat.not_le, cp_143, h2]
    refine cw_m (fun _ => cd_s243_8) ?_
    simp (disch := omega) only [cw_l0, cw_l1, cw_l2, cw_l3, cw_l4, cw_l5, cw_l6, cw_l7, cw_l8, cw_l9, cw_l10, cw_l11, cw_l12, cw_l13, cw_l14, cw_l15, cw_l16, cw_l17, cw_l18, cw_l19, cw_l20, cw_l27, cw_l28, cw_l31, cw_l32, cw_l40, cw_l52, cw_l60, cw_l61, cw_l63, cw_l64, cw_l80, cw_l97, cw_l99, cw_l100, cw_l255, cw_l500, cw_l999, cw_l65536, cd_inN, nI_clamp, nI_add, pk_mul, cw_subc, cw_zz, pk_div, cw_ltN, cw_eqN, cw_tf0, cw_tf1, cw_tfa, cw_bi, cw_bl, cw_bv, if_true, if_false, Bool.false_eq_true, Bool.true_eq_false, ite_self, cw_neg1, cw_m1a, cw_ztl, cw_zeq, cw_zadd, cw_znadd, cw_nzadd, cw_zsub, cw_zmul, cw_znmul, cw_nzmul, cw_ltNZ, cw_eqZN, cw_eqNZ, cw_ltZN, cw_on, cw_os, cw_c0, cw_c1, cw_c2, cw_c3, cw_c4, cw_c5, cw_c8, cw_c10, cw_c40, cw_c80, cw_c100, cp_144z, cp_140n, cw_mabs, cw_mod8, decide_eq_true_eq, not_false_eq_true, not_true_eq_false, true_and, and_true, false_and, and_false, decide_eq_false_iff_not, Nat.not_lt, Nat.not_le]
    exact cw_ret ⟨rfl, hM, ce_fC.rf⟩
theorem cp_243m (hM : ce_M D S Y I) {x y : Int32} (hx : ce_ih x = true) (hy : ce_ix y 1000 = true) (h0 : D 0 0 = 0) : cw L w (cd_c 243 [.ref 100, .int x, .int y] (cd_mm L w I J)) (ce_post (.int (-1003)) D S Y I J) := by
  have r0 := hM.1.1.1
  rw [h0] at r0
  refine cw_c (l := [_, _, _, _, _, _]) rfl rfl ?_
  refine cw_m (fun _ => cd_s243_0) ?_
  simp (disch := omega) only [cw_l0, cw_l1, cw_l2, cw_l3, cw_l4, cw_l5, cw_l6, cw_l7, cw_l8, cw_l9, cw_l10, cw_l11, cw_l12, cw_l13, cw_l14, cw_l15, cw_l16, cw_l17, cw_l18, cw_l19, cw_l20, cw_l27, cw_l28, cw_l31, cw_l32, cw_l40, cw_l52, cw_l60, cw_l61, cw_l63, cw_l64, cw_l80, cw_l97, cw_l99, cw_l100, cw_l255, cw_l500, cw_l999, cw_l65536, cd_inN, nI_clamp, nI_add, pk_mul, cw_subc, cw_zz, pk_div, cw_ltN, cw_eqN, cw_tf0, cw_tf1, cw_tfa, cw_bi, cw_bl, cw_bv, if_true, if_false, Bool.false_eq_true, Bool.true_eq_false, ite_self, cw_neg1, cw_m1a, cw_ztl, cw_zeq, cw_zadd, cw_znadd, cw_nzadd, cw_zsub, cw_zmul, cw_znmul, cw_nzmul, cw_ltNZ, cw_eqZN, cw_eqNZ, cw_ltZN, cw_on, cw_os, cw_c0, cw_c1, cw_c2, cw_c3, cw_c4, cw_c5, cw_c8, cw_c10, cw_c40, cw_c80, cw_c100, cp_144z, cp_140n, cw_mabs, cw_mod8, decide_eq_true_eq, not_false_eq_true, not_true_eq_false, true_and, and_true, false_and, and_false, decide_eq_false_iff_not, Nat.not_lt, Nat.not_le, cp_138, ce_ihw, hx]
  refine cw_m (fun _ => cd_s243_5) ?_
  simp (disch := omega) only [cw_l0, cw_l1, cw_l2, cw_l3, cw_l4, cw_l5, cw_l6, cw_l7, cw_l8, cw_l9, cw_l10, cw_l11, cw_l12, cw_l13, cw_l14, cw_l15, cw_l16, cw_l17, cw_l18, cw_l19, cw_l20, cw_l27, cw_l28, cw_l31, cw_l32, cw_l40, cw_l52, cw_l60, cw_l61, cw_l63, cw_l64, cw_l80, cw_l97, cw_l99, cw_l100, cw_l255, cw_l500, cw_l999, cw_l65536, cd_inN, nI_clamp, nI_add, pk_mul, cw_subc, cw_zz, pk_div, cw_ltN, cw_eqN, cw_tf0, cw_tf1, cw_tfa, cw_bi, cw_bl, cw_bv, if_true, if_false, Bool.false_eq_true, Bool.true_eq_false, ite_self, cw_neg1, cw_m1a, cw_ztl, cw_zeq, cw_zadd, cw_znadd, cw_nzadd, cw_zsub, cw_zmul, cw_znmul, cw_nzmul, cw_ltNZ, cw_eqZN, cw_eqNZ, cw_ltZN, cw_on, cw_os, cw_c0, cw_c1, cw_c2, cw_c3, cw_c4, cw_c5, cw_c8, cw_c10, cw_c40, cw_c80, cw_c100, cp_144z, cp_140n, cw_mabs, cw_mod8, decide_eq_true_eq, not_false_eq_true, not_true_eq_false, true_and, and_true, false_and, and_false, decide_eq_false_iff_not, Nat.not_lt, Nat.not_le, cp_143, hy]
  refine cw_m (fun _ => cd_s243_8) ?_
  simp (disch := omega) only [cw_l0, cw_l1, cw_l2, cw_l3, cw_l4, cw_l5, cw_l6, cw_l7, cw_l8, cw_l9, cw_l10, cw_l11, cw_l12, cw_l13, cw_l14, cw_l15, cw_l16, cw_l17, cw_l18, cw_l19, cw_l20, cw_l27, cw_l28, cw_l31, cw_l32, cw_l40, cw_l52, cw_l60, cw_l61, cw_l63, cw_l64, cw_l80, cw_l97, cw_l99, cw_l100, cw_l255, cw_l500, cw_l999, cw_l65536, cd_inN, nI_clamp, nI_add, pk_mul, cw_subc, cw_zz, pk_div, cw_ltN, cw_eqN, cw_tf0, cw_tf1, cw_tfa, cw_bi, cw_bl, cw_bv, if_true, if_false, Bool.false_eq_true, Bool.true_eq_false, ite_self, cw_neg1, cw_m1a, cw_ztl, cw_zeq, cw_zadd, cw_znadd, cw_nzadd, cw_zsub, cw_zmul, cw_znmul, cw_nzmul, cw_ltNZ, cw_eqZN, cw_eqNZ, cw_ltZN, cw_on, cw_os, cw_c0, cw_c1, cw_c2, cw_c3, cw_c4, cw_c5, cw_c8, cw_c10, cw_c40, cw_c80, cw_c100, cp_144z, cp_140n, cw_mabs, cw_mod8, decide_eq_true_eq, not_false_eq_true, not_true_eq_false, true_and, and_true, false_and, and_false, decide_eq_false_iff_not, Nat.not_lt, Nat.not_le, r0]
  exact cw_ret ⟨rfl, hM, ce_fC.rf⟩
theorem cp_243L {n b i : Nat} {X : cd_S × List (Nat × Nat) × Nat} {Q : Option Value → (Nat → Nat → Int32) → (Nat → Nat → Int64) → Prop} {u : Value} (hb : b < 1000) (h0 : 0 < D 0 0) (h8 : D 0 0 ≤ 8) (hX : X.2.2 < 2 ^ 20 ∧ i < n ∧ n ≤ 20) (k1 : ce_ok D X.1 (ceSE Y X.2.1)) (m1 : ce_M D X.1 (ceSE Y X.2.1) I) (K : ∀ I4 J4, ce_M D (ce_bs D b X).1 (ceSE Y (ce_bs D b X).2.1) I4 → ce_fC I J I4 J4 → ∀ u, cw L w (cd_go 243 20 [.ref 100, .int (nI n), .int (nI b), .int (nI (ce_bs D b X).2.2), .int (nI (i + 1)), u] [] (cd_mm L w I4 J4)) Q) : cw L w (cd_go 243 20 [.ref 100, .int (nI n), .int (nI b), .int (nI X.2.2), .int (nI i), u] [] (cd_mm L w I J)) Q := by
  have hs := k1.2.1.2.2.2.2
  have c1 := cp_242 (L := L) (w := w) (J := J) m1 hs h0 (by omega)
  have b1 : ce_sd (X.1 0 3) = ce_b1 X := rfl
  have b2 : ce_sd (ce_b1 X) = ce_b2 X := rfl
  rw [b1] at c1
  have m2 := m1.seed k1.1 (ce_b1 X)
  have hb1 : ce_b1 X < 2 ^ 31 := ce_sd_lt _
  have hb2 : ce_b2 X < 2 ^ 31 := ce_sd_lt _
  have c2 := cp_242 (L := L) (w := w) (J := J) m2 (by rw [ce_s3_3]; exact hb1) (n := b + 1) (by omega) (by omega)
  rw [ce_s3_3, b2] at c2
  have hu : cd_up (cd_up I 100 56 (nI (ce_b1 X))) 100 56 (nI (ce_b2 X)) = cd_up I 100 56 (nI (ce_b2 X)) := by
    exact cd_up_up
  rw [hu] at c2
  have m3 := m1.seed k1.1 (ce_b2 X)
  have k3 : ce_ok D (ce_s3 X.1 (ce_b2 X)) (ceSE Y X.2.1) := ⟨k1.1, ce_s3_ok k1.2.1 hb2, k1.2.2⟩
  have ht : ce_b1 X / 65536 % D 0 0 < D 0 0 := Nat.mod_lt _ h0
  have hbb : ce_b2 X / 65536 % (b + 1) < b + 1 := Nat.mod_lt _ (by omega)
  have hK := K
  unfold ce_bs ce_bR at hK
  generalize ce_b1 X / 65536 % D 0 0 = t at c1 ht hK
  generalize ce_b2 X / 65536 % (b + 1) = bb at c2 hbb hK
  refine cw_m (fun _ => cd_s243_20) ?_
  simp (disch := omega) only [cw_l0, cw_l1, cw_l2, cw_l3, cw_l4, cw_l5, cw_l6, cw_l7, cw_l8, cw_l9, cw_l10, cw_l11, cw_l12, cw_l13, cw_l14, cw_l15, cw_l16, cw_l17, cw_l18, cw_l19, cw_l20, cw_l27, cw_l28, cw_l31, cw_l32, cw_l40, cw_l52, cw_l60, cw_l61, cw_l63, cw_l64, cw_l80, cw_l97, cw_l99, cw_l100, cw_l255, cw_l500, cw_l999, cw_l65536, cd_inN, nI_clamp, nI_add, pk_mul, cw_subc, cw_zz, pk_div, cw_ltN, cw_eqN, cw_tf0, cw_tf1, cw_tfa, cw_bi, cw_bl, cw_bv, if_true, if_false, Bool.false_eq_true, Bool.true_eq_false, ite_self, cw_neg1, cw_m1a, cw_ztl, cw_zeq, cw_zadd, cw_znadd, cw_nzadd, cw_zsub, cw_zmul, cw_znmul, cw_nzmul, cw_ltNZ, cw_eqZN, cw_eqNZ, cw_ltZN, cw_on, cw_os, cw_c0, cw_c1, cw_c2, cw_c3, cw_c4, cw_c5, cw_c8, cw_c10, cw_c40, cw_c80, cw_c100, cp_144z, cp_140n, cw_mabs, cw_mod8, decide_eq_true_eq, not_false_eq_true, not_true_eq_false, true_and, and_true, false_and, and_false, decide_eq_false_iff_not, Nat.not_lt, Nat.not_le, if_pos, if_neg, m1.1.1.1, c1]
  refine cw_m (fun _ => cd_s243_27) ?_
  simp (disch := omega) only [cw_l0, cw_l1, cw_l2, cw_l3, cw_l4, cw_l5, cw_l6, cw_l7, cw_l8, cw_l9, cw_l10, cw_l11, cw_l12, cw_l13, cw_l14, cw_l15, cw_l16, cw_l17, cw_l18, cw_l19, cw_l20, cw_l27, cw_l28, cw_l31, cw_l32, cw_l40, cw_l52, cw_l60, cw_l61, cw_l63, cw_l64, cw_l80, cw_l97, cw_l99, cw_l100, cw_l255, cw_l500, cw_l999, cw_l65536, cd_inN, nI_clamp, nI_add, pk_mul, cw_subc, cw_zz, pk_div, cw_ltN, cw_eqN, cw_tf0, cw_tf1, cw_tfa, cw_bi, cw_bl, cw_bv, if_true, if_false, Bool.false_eq_true, Bool.true_eq_false, ite_self, cw_neg1, cw_m1a, cw_ztl, cw_zeq, cw_zadd, cw_znadd, cw_nzadd, cw_zsub, cw_zmul, cw_znmul, cw_nzmul, cw_ltNZ, cw_eqZN, cw_eqNZ, cw_ltZN, cw_on, cw_os, cw_c0, cw_c1, cw_c2, cw_c3, cw_c4, cw_c5, cw_c8, cw_c10, cw_c40, cw_c80, cw_c100, cp_144z, cp_140n, cw_mabs, cw_mod8, decide_eq_true_eq, not_false_eq_true, not_true_eq_false, true_and, and_true, false_and, and_false, decide_eq_false_iff_not, Nat.not_lt, Nat.not_le, c2]
  refine cw_m (fun _ => cd_s243_36) ?_
  refine cw_ci (cw_mono (cp_196 k3 m3 (o := some t) (b := bb) (by omega) (fun t q => by cases q; omega)) ?_)
  have hl := ce_run_len (D := D) 60 (S := ce_s3 X.1 (ce_b2 X)) (some t) bb
  generalize ce_run D 60 (ce_s3 X.1 (ce_b2 X)) (some t) bb = R at hK hl
  intro v I4 J4 ⟨hv, m4, f4⟩
  subst hv
  refine ⟨_, rfl, ?_⟩
  refine cw_m (fun _ => cd_s243_37) ?_
  simp (disch := omega) only [cw_l0, cw_l1, cw_l2, cw_l3, cw_l4, cw_l5, cw_l6, cw_l7, cw_l8, cw_l9, cw_l10, cw_l11, cw_l12, cw_l13, cw_l14, cw_l15, cw_l16, cw_l17, cw_l18, cw_l19, cw_l20, cw_l27, cw_l28, cw_l31, cw_l32, cw_l40, cw_l52, cw_l60, cw_l61, cw_l63, cw_l64, cw_l80, cw_l97, cw_l99, cw_l100, cw_l255, cw_l500, cw_l999, cw_l65536, cd_inN, nI_clamp, nI_add, pk_mul, cw_subc, cw_zz, pk_div, cw_ltN, cw_eqN, cw_tf0, cw_tf1, cw_tfa, cw_bi, cw_bl, cw_bv, if_true, if_false, Bool.false_eq_true, Bool.true_eq_false, ite_self, cw_neg1, cw_m1a, cw_ztl, cw_zeq, cw_zadd, cw_znadd, cw_nzadd, cw_zsub, cw_zmul, cw_znmul, cw_nzmul, cw_ltNZ, cw_eqZN, cw_eqNZ, cw_ltZN, cw_on, cw_os, cw_c0, cw_c1, cw_c2, cw_c3, cw_c4, cw_c5, cw_c8, cw_c10, cw_c40, cw_c80, cw_c100, cp_144z, cp_140n, cw_mabs, cw_mod8, decide_eq_true_eq, not_false_eq_true, not_true_eq_false, true_and, and_true, false_and, and_false, decide_eq_false_iff_not, Nat.not_lt, Nat.not_le]
  exact hK I4 J4 m4 ⟨fun a k ha => (f4.1 a k ha).trans (cd_up_a (by omega)), f4.2⟩ _
theorem cp_243 (hK : ce_ok D S Y) (hM : ce_M D S Y I) {n b : Nat} (h1 : 1 ≤ n) (h2 : n ≤ 20) (hb : b < 1000) (h0 : 0 < D 0 0) : cw L w (cd_c 243 [.ref 100, .int (nI n), .int (nI b)] (cd_mm L w I J)) (ce_post (.int (nI (ce_bu D b S (ceE Y) n).2.2)) D (ce_bu D b S (ceE Y) n).1 (ceSE Y (ce_bu D b S (ceE Y) n).2.1) I J) := by
  have h8 := hK.1.1.1
  have hx := ce_ih_n h1 h2
  have hy := ce_ix_n hb (by decide)
  refine cw_c (l := [_, _, _, _, _, _]) rfl rfl ?_
  refine cw_m (fun _ => cd_s243_0) ?_
  simp (disch := omega) only [cw_l0, cw_l1, cw_l2, cw_l3, cw_l4, cw_l5, cw_l6, cw_l7, cw_l8, cw_l9, cw_l10, cw_l11, cw_l12, cw_l13, cw_l14, cw_l15, cw_l16, cw_l17, cw_l18, cw_l19, cw_l20, cw_l27, cw_l28, cw_l31, cw_l32, cw_l40, cw_l52, cw_l60, cw_l61, cw_l63, cw_l64, cw_l80, cw_l97, cw_l99, cw_l100, cw_l255, cw_l500, cw_l999, cw_l65536, cd_inN, nI_clamp, nI_add, pk_mul, cw_subc, cw_zz, pk_div, cw_ltN, cw_eqN, cw_tf0, cw_tf1, cw_tfa, cw_bi, cw_bl, cw_bv, if_true, if_false, Bool.false_eq_true, Bool.true_eq_false, ite_self, cw_neg1, cw_m1a, cw_ztl, cw_zeq, cw_zadd, cw_znadd, cw_nzadd, cw_zsub, cw_zmul, cw_znmul, cw_nzmul, cw_ltNZ, cw_eqZN, cw_eqNZ, cw_ltZN, cw_on, cw_os, cw_c0, cw_c1, cw_c2, cw_c3, cw_c4, cw_c5, cw_c8, cw_c10, cw_c40, cw_c80, cw_c100, cp_144z, cp_140n, cw_mabs, cw_mod8, decide_eq_true_eq, not_false_eq_true, not_true_eq_false, true_and, and_true, false_and, and_false, decide_eq_false_iff_not, Nat.not_lt, Nat.not_le, cp_138, ce_ihw, hx]
  refine cw_m (fun _ => cd_s243_5) ?_
  simp (disch := omega) only [cw_l0, cw_l1, cw_l2, cw_l3, cw_l4, cw_l5, cw_l6, cw_l7, cw_l8, cw_l9, cw_l10, cw_l11, cw_l12, cw_l13, cw_l14, cw_l15, cw_l16, cw_l17, cw_l18, cw_l19, cw_l20, cw_l27, cw_l28, cw_l31, cw_l32, cw_l40, cw_l52, cw_l60, cw_l61, cw_l63, cw_l64, cw_l80, cw_l97, cw_l99, cw_l100, cw_l255, cw_l500, cw_l999, cw_l65536, cd_inN, nI_clamp, nI_add, pk_mul, cw_subc, cw_zz, pk_div, cw_ltN, cw_eqN, cw_tf0, cw_tf1, cw_tfa, cw_bi, cw_bl, cw_bv, if_true, if_false, Bool.false_eq_true, Bool.true_eq_false, ite_self, cw_neg1, cw_m1a, cw_ztl, cw_zeq, cw_zadd, cw_znadd, cw_nzadd, cw_zsub, cw_zmul, cw_znmul, cw_nzmul, cw_ltNZ, cw_eqZN, cw_eqNZ, cw_ltZN, cw_on, cw_os, cw_c0, cw_c1, cw_c2, cw_c3, cw_c4, cw_c5, cw_c8, cw_c10, cw_c40, cw_c80, cw_c100, cp_144z, cp_140n, cw_mabs, cw_mod8, decide_eq_true_eq, not_false_eq_true, not_true_eq_false, true_and, and_true, false_and, and_false, decide_eq_false_iff_not, Nat.not_lt, Nat.not_le, cp_143, hy]
  refine cw_m (fun _ => cd_s243_8) ?_
  simp (disch := omega) only [cw_l0, cw_l1, cw_l2, cw_l3, cw_l4, cw_l5, cw_l6, cw_l7, cw_l8, cw_l9, cw_l10, cw_l11, cw_l12, cw_l13, cw_l14, cw_l15, cw_l16, cw_l17, cw_l18, cw_l19, cw_l20, cw_l27, cw_l28, cw_l31, cw_l32, cw_l40, cw_l52, cw_l60, cw_l61, cw_l63, cw_l64, cw_l80, cw_l97, cw_l99, cw_l100, cw_l255, cw_l500, cw_l999, cw_l65536, cd_inN, nI_clamp, nI_add, pk_mul, cw_subc, cw_zz, pk_div, cw_ltN, cw_eqN, cw_tf0, cw_tf1, cw_tfa, cw_bi, cw_bl, cw_bv, if_true, if_false, Bool.false_eq_true, Bool.true_eq_false, ite_self, cw_neg1, cw_m1a, cw_ztl, cw_zeq, cw_zadd, cw_znadd, cw_nzadd, cw_zsub, cw_zmul, cw_znmul, cw_nzmul, cw_ltNZ, cw_eqZN, cw_eqNZ, cw_ltZN, cw_on, cw_os, cw_c0, cw_c1, cw_c2, cw_c3, cw_c4, cw_c5, cw_c8, cw_c10, cw_c40, cw_c80, cw_c100, cp_144z, cp_140n, cw_mabs, cw_mod8, decide_eq_true_eq, not_false_eq_true, not_true_eq_false, true_and, and_true, false_and, and_false, decide_eq_false_iff_not, Nat.not_lt, Nat.not_le, if_pos, if_neg, hM.1.1.1]
  refine cw_up (fun i (s : (Nat → Nat → Int32) × (Nat → Nat → Int64) × Value) => cd_go 243 20 [.ref 100, .int (nI n), .int (nI b), .int (nI (ce_bu D b S (ceE Y) i).2.2), .int (nI i), s.2.2] [] (cd_mm L w s.1 s.2.1)) (fun i s => ce_M D (ce_bu D b S (ceE Y) i).1 (ceSE Y (ce_bu D b S (ceE Y) i).2.1) s.1 ∧ ce_fC I J s.1 s.2.1) n ?_ ?_ 0 (I, J, .null) (by omega) ⟨hM, ce_fC.rf⟩
  · intro ⟨I1, J1, u⟩ ⟨m1, f1⟩
    refine cw_m (fun _ => cd_s243_20) ?_
    simp (disch := omega) only [cw_l0, cw_l1, cw_l2, cw_l3, cw_l4, cw_l5, cw_l6, cw_l7, cw_l8, cw_l9, cw_l10, cw_l11, cw_l12, cw_l13, cw_l14, cw_l15, cw_l16, cw_l17, cw_l18, cw_l19, cw_l20, cw_l27, cw_l28, cw_l31, cw_l32, cw_l40, cw_l52, cw_l60, cw_l61, cw_l63, cw_l64, cw_l80, cw_l97, cw_l99, cw_l100, cw_l255, cw_l500, cw_l999, cw_l65536, cd_inN, nI_clamp, nI_add, pk_mul, cw_subc, cw_zz, pk_div, cw_ltN, cw_eqN, cw_tf0, cw_tf1, cw_tfa, cw_bi, cw_bl, cw_bv, if_true, if_false, Bool.false_eq_true, Bool.true_eq_false, ite_self, cw_neg1, cw_m1a, cw_ztl, cw_zeq, cw_zadd, cw_znadd, cw_nzadd, cw_zsub, cw_zmul, cw_znmul, cw_nzmul, cw_ltNZ, cw_eqZN, cw_eqNZ, cw_ltZN, cw_on, cw_os, cw_c0, cw_c1, cw_c2, cw_c3, cw_c4, cw_c5, cw_c8, cw_c10, cw_c40, cw_c80, cw_c100, cp_144z, cp_140n, cw_mabs, cw_mod8, decide_eq_true_eq, not_false_eq_true, not_true_eq_false, true_and, and_true, false_and, and_false, decide_eq_false_iff_not, Nat.not_lt, Nat.not_le, if_pos, if_neg]
    exact cw_ret ⟨rfl, m1, f1⟩
  · intro i ⟨I1, J1, u⟩ hi ⟨m1, f1⟩ K
    replace m1 : ce_M D (ce_bu D b S (ceE Y) i).1 (ceSE Y (ce_bu D b S (ceE Y) i).2.1) I1 := m1
    replace f1 : ce_fC I J I1 J1 := f1
    obtain ⟨k1, k2⟩ := ce_bu_ok hK b i
    rw [ce_bu_s] at K
    generalize ce_bu D b S (ceE Y) i = X at m1 k1 k2 K
    exact cp_243L hb h0 h8 (by omega) k1 m1 (fun I4 J4 m4 f4 u => K (I4, J4, u) ⟨m4, f1.tr f4⟩)
/-- images -/
theorem cp_244n (hM : ce_M D S Y I) {x : Int32} (hx : ce_ix x 2 = false) : cw L w (cd_c 244 [.ref 100, .int x] (cd_mm L w I J)) (ce_post (.int (-1001)) D S Y I J) := by
  have e := ce_ixl (x := x) (n := 2) (h := 1) rfl (by decide)
  refine cw_c (l := [_, _]) rfl rfl ?_
  refine cw_m (fun _ => cd_s244_0) ?_
  simp (disch := omega) only [cw_l0, cw_l1, cw_l2, cw_l3, cw_l4, cw_l5, cw_l6, cw_l7, cw_l8, cw_l9, cw_l10, cw_l11, cw_l12, cw_l13, cw_l14, cw_l15, cw_l16, cw_l17, cw_l18, cw_l19, cw_l20, cw_l27, cw_l28, cw_l31, cw_l32, cw_l40, cw_l52, cw_l60, cw_l61, cw_l63, cw_l64, cw_l80, cw_l97, cw_l99, cw_l100, cw_l255, cw_l500, cw_l999, cw_l65536, cd_inN, nI_clamp, nI_add, pk_mul, cw_subc, cw_zz, pk_div, cw_ltN, cw_eqN, cw_tf0, cw_tf1, cw_tfa, cw_bi, cw_bl, cw_bv, if_true, if_false, Bool.false_eq_true, Bool.true_eq_false, ite_self, cw_neg1, cw_m1a, cw_ztl, cw_zeq, cw_zadd, cw_znadd, cw_nzadd, cw_zsub, cw_zmul, cw_znmul, cw_nzmul, cw_ltNZ, cw_eqZN, cw_eqNZ, cw_ltZN, cw_on, cw_os, cw_c0, cw_c1, cw_c2, cw_c3, cw_c4, cw_c5, cw_c8, cw_c10, cw_c40, cw_c80, cw_c100, cp_144z, cp_140n, cw_mabs, cw_mod8, decide_eq_true_eq, not_false_eq_true, not_true_eq_false, true_and, and_true, false_and, and_false, decide_eq_false_iff_not, Nat.not_lt, Nat.not_le, cp_138, e, hx]
  refine cw_m (fun _ => cd_s244_5) ?_
  simp (disch := omega) only [cw_l0, cw_l1, cw_l2, cw_l3, cw_l4, cw_l5, cw_l6, cw_l7, cw_l8, cw_l9, cw_l10, cw_l11, cw_l12, cw_l13, cw_l14, cw_l15, cw_l16, cw_l17, cw_l18, cw_l19, cw_l20, cw_l27, cw_l28, cw_l31, cw_l32, cw_l40, cw_l52, cw_l60, cw_l61, cw_l63, cw_l64, cw_l80, cw_l97, cw_l99, cw_l100, cw_l255, cw_l500, cw_l999, cw_l65536, cd_inN, nI_clamp, nI_add, pk_mul, cw_subc, cw_zz, pk_div, cw_ltN, cw_eqN, cw_tf0, cw_tf1, cw_tfa, cw_bi, cw_bl, cw_bv, if_true, if_false, Bool.false_eq_true, Bool.true_eq_false, ite_self, cw_neg1, cw_m1a, cw_ztl, cw_zeq, cw_zadd, cw_znadd, cw_nzadd, cw_zsub, cw_zmul, cw_znmul, cw_nzmul, cw_ltNZ, cw_eqZN, cw_eqNZ, cw_ltZN, cw_on, cw_os, cw_c0, cw_c1, cw_c2, cw_c3, cw_c4, cw_c5, cw_c8, cw_c10, cw_c40, cw_c80, cw_c100, cp_144z, cp_140n, cw_mabs, cw_mod8, decide_eq_true_eq, not_false_eq_true, not_true_eq_false, true_and, and_true, false_and, and_false, decide_eq_false_iff_not, Nat.not_lt, Nat.not_le]
  exact cw_ret ⟨rfl, hM, ce_fC.rf⟩
theorem cp_244 (hK : ce_ok D S Y) (hM : ce_M D S Y I) {i : Nat} (hi : i < 2) : cw L w (cd_c 244 [.ref 100, .int (nI i)] (cd_mm L w I J)) (ce_post (.int 1) D S (ceSK Y i S) I J) := by
  have h8 := hK.1.1.1
  have h12 := hK.1.1.2.2.1
  have e := ce_ixl (x := nI i) (n := 2) (h := 1) rfl (by decide)
  refine cw_c (l := [_, _]) rfl rfl ?_
  refine cw_m (fun _ => cd_s244_0) ?_
  simp (disch := omega) only [cw_l0, cw_l1, cw_l2, cw_l3, cw_l4, cw_l5, cw_l6, cw_l7, cw_l8, cw_l9, cw_l10, cw_l11, cw_l12, cw_l13, cw_l14, cw_l15, cw_l16, cw_l17, cw_l18, cw_l19, cw_l20, cw_l27, cw_l28, cw_l31, cw_l32, cw_l40, cw_l52, cw_l60, cw_l61, cw_l63, cw_l64, cw_l80, cw_l97, cw_l99, cw_l100, cw_l255, cw_l500, cw_l999, cw_l65536, cd_inN, nI_clamp, nI_add, pk_mul, cw_subc, cw_zz, pk_div, cw_ltN, cw_eqN, cw_tf0, cw_tf1, cw_tfa, cw_bi, cw_bl, cw_bv, if_true, if_false, Bool.false_eq_true, Bool.true_eq_false, ite_self, cw_neg1, cw_m1a, cw_ztl, cw_zeq, cw_zadd, cw_znadd, cw_nzadd, cw_zsub, cw_zmul, cw_znmul, cw_nzmul, cw_ltNZ, cw_eqZN, cw_eqNZ, cw_ltZN, cw_on, cw_os, cw_c0, cw_c1, cw_c2, cw_c3, cw_c4, cw_c5, cw_c8, cw_c10, cw_c40, cw_c80, cw_c100, cp_144z, cp_140n, cw_mabs, cw_mod8, decide_eq_true_eq, not_false_eq_true, not_true_eq_false, true_and, and_true, false_and, and_false, decide_eq_false_iff_not, Nat.not_lt, Nat.not_le, cp_138, e, ce_ix_n hi (by decide)]
  refine cw_m (fun _ => cd_s244_5) ?_
  rw [if_neg (show ¬ cd_tf true = 0 by decide)]
  refine cw_cv (cw_mono (cp_216 h8 h12 hM.2.1 hM.2.2.2.1 (i := i) (by omega)) ?_)
  intro v I1 J1 ⟨hv, hJ, f1, him⟩
  subst hv hJ
  refine ⟨rfl, ?_⟩
  refine cw_m (fun _ => cd_s244_11) ?_
  simp (disch := omega) only [cw_l0, cw_l1, cw_l2, cw_l3, cw_l4, cw_l5, cw_l6, cw_l7, cw_l8, cw_l9, cw_l10, cw_l11, cw_l12, cw_l13, cw_l14, cw_l15, cw_l16, cw_l17, cw_l18, cw_l19, cw_l20, cw_l27, cw_l28, cw_l31, cw_l32, cw_l40, cw_l52, cw_l60, cw_l61, cw_l63, cw_l64, cw_l80, cw_l97, cw_l99, cw_l100, cw_l255, cw_l500, cw_l999, cw_l65536, cd_inN, nI_clamp, nI_add, pk_mul, cw_subc, cw_zz, pk_div, cw_ltN, cw_eqN, cw_tf0, cw_tf1, cw_tfa, cw_bi, cw_bl, cw_bv, if_true, if_false, Bool.false_eq_true, Bool.true_eq_false, ite_self, cw_neg1, cw_m1a, cw_ztl, cw_zeq, cw_zadd, cw_znadd, cw_nzadd, cw_zsub, cw_zmul, cw_znmul, cw_nzmul, cw_ltNZ, cw_eqZN, cw_eqNZ, cw_ltZN, cw_on, cw_os, cw_c0, cw_c1, cw_c2, cw_c3, cw_c4, cw_c5, cw_c8, cw_c10, cw_c40, cw_c80, cw_c100, cp_144z, cp_140n, cw_mabs, cw_mod8, decide_eq_true_eq, not_false_eq_true, not_true_eq_false, true_and, and_true, false_and, and_false, decide_eq_false_iff_not, Nat.not_lt, Nat.not_le, if_pos, if_neg]
  have g : ∀ a k, ¬ (a = 125 ∧ 80 * i ≤ k ∧ k < 80 * i + 60) → ¬ (a = 126 ∧ k = i) → cd_up I1 126 i (nI 1) a k = I a k := fun a k h1 h2 => by rw [cd_up_k2 h2, f1 a k h1]
  obtain ⟨⟨b1, b2, b3, b4⟩, c, d, e4, e5⟩ := hM.2.2.2.2
  refine cw_ret ⟨rfl, ⟨hM.1.of (fun a k h1 h2 => g a k (by omega) (by omega)), hM.2.1.of (fun a k h => g a k (by omega) (by omega)), ?_, ?_, ⟨⟨?_, ?_, ?_, ?_⟩, fun j hj => ?_, fun j hj k hk => ?_, fun j hj => ?_, fun j hj => ⟨?_, fun hb => ?_⟩⟩⟩, ce_fCr (fun a k h => g a k (by omega) (by omega))⟩
  · rw [g _ _ (by omega) (by omega)]; exact hM.2.2.1
  · rw [g _ _ (by omega) (by omega)]; exact hM.2.2.2.1
  · rw [g _ _ (by omega) (by omega)]; exact b1
  · rw [g _ _ (by omega) (by omega)]; exact b2
  · rw [g _ _ (by omega) (by omega)]; exact b3
  · rw [g _ _ (by omega) (by omega)]; exact b4
  · rw [g _ _ (by omega) (by omega)]; exact c j hj
  · rw [g _ _ (by omega) (by omega)]; exact d j hj k hk
  · rw [g _ _ (by omega) (by omega), g _ _ (by omega) (by omega)]; exact e4 j hj
  · show _ = cd_tf (if j = i then true else ceB Y j)
    by_cases hji : j = i
    · rw [hji, cd_up_s, if_pos rfl]; rfl
    · rw [cd_up_k hji, if_neg hji, f1 _ _ (by omega)]; exact (e5 j hj).1
  · show ce_im D (if j = i then S else ceK Y j) (80 * j) _
    replace hb : (if j = i then true else ceB Y j) = true := hb
    by_cases hji : j = i
    · rw [if_pos hji, hji]
      exact him.of (fun k _ => cd_up_a (by decide)) h8 h12
    · rw [if_neg hji]
      rw [if_neg hji] at hb
      exact ((e5 j hj).2 hb).of2 (fun k h1 h2 => by rw [cd_up_a (by decide), f1 _ _ (by omega)]) h8 h12
theorem cp_245n (hM : ce_M D S Y I) {x : Int32} (hx : ce_ix x 2 = false) : cw L w (cd_c 245 [.ref 100, .int x] (cd_mm L w I J)) (ce_post (.int (-1001)) D S Y I J) := by
  have e := ce_ixl (x := x) (n := 2) (h := 1) rfl (by decide)
  refine cw_c (l := [_, _]) rfl rfl ?_
  refine cw_m (fun _ => cd_s245_0) ?_
  simp (disch := omega) only [cw_l0, cw_l1, cw_l2, cw_l3, cw_l4, cw_l5, cw_l6, cw_l7, cw_l8, cw_l9, cw_l10, cw_l11, cw_l12, cw_l13, cw_l14, cw_l15, cw_l16, cw_l17, cw_l18, cw_l19, cw_l20, cw_l27, cw_l28, cw_l31, cw_l32, cw_l40, cw_l52, cw_l60, cw_l61, cw_l63, cw_l64, cw_l80, cw_l97, cw_l99, cw_l100, cw_l255, cw_l500, cw_l999, cw_l65536, cd_inN, nI_clamp, nI_add, pk_mul, cw_subc, cw_zz, pk_div, cw_ltN, cw_eqN, cw_tf0, cw_tf1, cw_tfa, cw_bi, cw_bl, cw_bv, if_true, if_false, Bool.false_eq_true, Bool.true_eq_false, ite_self, cw_neg1, cw_m1a, cw_ztl, cw_zeq, cw_zadd, cw_znadd, cw_nzadd, cw_zsub, cw_zmul, cw_znmul, cw_nzmul, cw_ltNZ, cw_eqZN, cw_eqNZ, cw_ltZN, cw_on, cw_os, cw_c0, cw_c1, cw_c2, cw_c3, cw_c4, cw_c5, cw_c8, cw_c10, cw_c40, cw_c80, cw_c100, cp_144z, cp_140n, cw_mabs, cw_mod8, decide_eq_true_eq, not_false_eq_true, not_true_eq_false, true_and, and_true, false_and, and_false, decide_eq_false_iff_not, Nat.not_lt, Nat.not_le, cp_138, e, hx]
  refine cw_m (fun _ => cd_s245_5) ?_
  simp (disch := omega) only [cw_l0, cw_l1, cw_l2, cw_l3, cw_l4, cw_l5, cw_l6, cw_l7, cw_l8, cw_l9, cw_l10, cw_l11, cw_l12, cw_l13, cw_l14, cw_l15, cw_l16, cw_l17, cw_l18, cw_l19, cw_l20, cw_l27, cw_l28, cw_l31, cw_l32, cw_l40, cw_l52, cw_l60, cw_l61, cw_l63, cw_l64, cw_l80, cw_l97, cw_l99, cw_l100, cw_l255, cw_l500, cw_l999, cw_l65536, cd_inN, nI_clamp, nI_add, pk_mul, cw_subc, cw_zz, pk_div, cw_ltN, cw_eqN, cw_tf0, cw_tf1, cw_tfa, cw_bi, cw_bl, cw_bv, if_true, if_false, Bool.false_eq_true, Bool.true_eq_false, ite_self, cw_neg1, cw_m1a, cw_ztl, cw_zeq, cw_zadd, cw_znadd, cw_nzadd, cw_zsub, cw_zmul, cw_znmul, cw_nzmul, cw_ltNZ, cw_eqZN, cw_eqNZ, cw_ltZN, cw_on, cw_os, cw_c0, cw_c1, cw_c2, cw_c3, cw_c4, cw_c5, cw_c8, cw_c10, cw_c40, cw_c80, cw_c100, cp_144z, cp_140n, cw_mabs, cw_mod8, decide_eq_true_eq, not_false_eq_true, not_true_eq_false, true_and, and_true, false_and, and_false, decide_eq_false_iff_not, Nat.not_lt, Nat.not_le]
  exact cw_ret ⟨rfl, hM, ce_fC.rf⟩
theorem cp_245m (hM : ce_M D S Y I) {i : Nat} (hi : i < 2) (hb : ceB Y i = false) : cw L w (cd_c 245 [.ref 100, .int (nI i)] (cd_mm L w I J)) (ce_post (.int (-1003)) D S Y I J) := by
  have e := ce_ixl (x := nI i) (n := 2) (h := 1) rfl (by decide)
  have m := (hM.2.2.2.2.2.2.2.2 i hi).1
  refine cw_c (l := [_, _]) rfl rfl ?_
  refine cw_m (fun _ => cd_s245_0) ?_
  simp (disch := omega) only [cw_l0, cw_l1, cw_l2, cw_l3, cw_l4, cw_l5, cw_l6, cw_l7, cw_l8, cw_l9, cw_l10, cw_l11, cw_l12, cw_l13, cw_l14, cw_l15, cw_l16, cw_l17, cw_l18, cw_l19, cw_l20, cw_l27, cw_l28, cw_l31, cw_l32, cw_l40, cw_l52, cw_l60, cw_l61, cw_l63, cw_l64, cw_l80, cw_l97, cw_l99, cw_l100, cw_l255, cw_l500, cw_l999, cw_l65536, cd_inN, nI_clamp, nI_add, pk_mul, cw_subc, cw_zz, pk_div, cw_ltN, cw_eqN, cw_tf0, cw_tf1, cw_tfa, cw_bi, cw_bl, cw_bv, if_true, if_false, Bool.false_eq_true, Bool.true_eq_false, ite_self, cw_neg1, cw_m1a, cw_ztl, cw_zeq, cw_zadd, cw_znadd, cw_nzadd, cw_zsub, cw_zmul, cw_znmul, cw_nzmul, cw_ltNZ, cw_eqZN, cw_eqNZ, cw_ltZN, cw_on, cw_os, cw_c0, cw_c1, cw_c2, cw_c3, cw_c4, cw_c5, cw_c8, cw_c10, cw_c40, cw_c80, cw_c100, cp_144z, cp_140n, cw_mabs, cw_mod8, decide_eq_true_eq, not_false_eq_true, not_true_eq_false, true_and, and_true, false_and, and_false, decide_eq_false_iff_not, Nat.not_lt, Nat.not_le, cp_138, e, ce_ix_n hi (by decide)]
  refine cw_m (fun _ => cd_s245_5) ?_
  simp (disch := omega) only [cw_l0, cw_l1, cw_l2, cw_l3, cw_l4, cw_l5, cw_l6, cw_l7, cw_l8, cw_l9, cw_l10, cw_l11, cw_l12, cw_l13, cw_l14, cw_l15, cw_l16, cw_l17, cw_l18, cw_l19, cw_l20, cw_l27, cw_l28, cw_l31, cw_l32, cw_l40, cw_l52, cw_l60, cw_l61, cw_l63, cw_l64, cw_l80, cw_l97, cw_l99, cw_l100, cw_l255, cw_l500, cw_l999, cw_l65536, cd_inN, nI_clamp, nI_add, pk_mul, cw_subc, cw_zz, pk_div, cw_ltN, cw_eqN, cw_tf0, cw_tf1, cw_tfa, cw_bi, cw_bl, cw_bv, if_true, if_false, Bool.false_eq_true, Bool.true_eq_false, ite_self, cw_neg1, cw_m1a, cw_ztl, cw_zeq, cw_zadd, cw_znadd, cw_nzadd, cw_zsub, cw_zmul, cw_znmul, cw_nzmul, cw_ltNZ, cw_eqZN, cw_eqNZ, cw_ltZN, cw_on, cw_os, cw_c0, cw_c1, cw_c2, cw_c3, cw_c4, cw_c5, cw_c8, cw_c10, cw_c40, cw_c80, cw_c100, cp_144z, cp_140n, cw_mabs, cw_mod8, decide_eq_true_eq, not_false_eq_true, not_true_eq_false, true_and, and_true, false_and, and_false, decide_eq_false_iff_not, Nat.not_lt, Nat.not_le, m, hb]
  exact cw_ret ⟨rfl, hM, ce_fC.rf⟩
theorem cp_245 (hK : ce_ok D S Y) (hM : ce_M D S Y I) {i : Nat} (hi : i < 2) (hb : ceB Y i = true) : cw L w (cd_c 245 [.ref 100, .int (nI i)] (cd_mm L w I J)) (ce_post (.int 1) D (ceK Y i) Y I J) := by
  have h8 := hK.1.1.1
  have h12 := hK.1.1.2.2.1
  have e := ce_ixl (x := nI i) (n := 2) (h := 1) rfl (by decide)
  have m := (hM.2.2.2.2.2.2.2.2 i hi).1
  refine cw_c (l := [_, _]) rfl rfl ?_
  refine cw_m (fun _ => cd_s245_0) ?_
  simp (disch := omega) only [cw_l0, cw_l1, cw_l2, cw_l3, cw_l4, cw_l5, cw_l6, cw_l7, cw_l8, cw_l9, cw_l10, cw_l11, cw_l12, cw_l13, cw_l14, cw_l15, cw_l16, cw_l17, cw_l18, cw_l19, cw_l20, cw_l27, cw_l28, cw_l31, cw_l32, cw_l40, cw_l52, cw_l60, cw_l61, cw_l63, cw_l64, cw_l80, cw_l97, cw_l99, cw_l100, cw_l255, cw_l500, cw_l999, cw_l65536, cd_inN, nI_clamp, nI_add, pk_mul, cw_subc, cw_zz, pk_div, cw_ltN, cw_eqN, cw_tf0, cw_tf1, cw_tfa, cw_bi, cw_bl, cw_bv, if_true, if_false, Bool.false_eq_true, Bool.true_eq_false, ite_self, cw_neg1, cw_m1a, cw_ztl, cw_zeq, cw_zadd, cw_znadd, cw_nzadd, cw_zsub, cw_zmul, cw_znmul, cw_nzmul, cw_ltNZ, cw_eqZN, cw_eqNZ, cw_ltZN, cw_on, cw_os, cw_c0, cw_c1, cw_c2, cw_c3, cw_c4, cw_c5, cw_c8, cw_c10, cw_c40, cw_c80, cw_c100, cp_144z, cp_140n, cw_mabs, cw_mod8, decide_eq_true_eq, not_false_eq_true, not_true_eq_false, true_and, and_true, false_and, and_false, decide_eq_false_iff_not, Nat.not_lt, Nat.not_le, cp_138, e, ce_ix_n hi (by decide)]
  refine cw_m (fun _ => cd_s245_5) ?_
  simp (disch := omega) only [cw_l0, cw_l1, cw_l2, cw_l3, cw_l4, cw_l5, cw_l6, cw_l7, cw_l8, cw_l9, cw_l10, cw_l11, cw_l12, cw_l13, cw_l14, cw_l15, cw_l16, cw_l17, cw_l18, cw_l19, cw_l20, cw_l27, cw_l28, cw_l31, cw_l32, cw_l40, cw_l52, cw_l60, cw_l61, cw_l63, cw_l64, cw_l80, cw_l97, cw_l99, cw_l100, cw_l255, cw_l500, cw_l999, cw_l65536, cd_inN, nI_clamp, nI_add, pk_mul, cw_subc, cw_zz, pk_div, cw_ltN, cw_eqN, cw_tf0, cw_tf1, cw_tfa, cw_bi, cw_bl, cw_bv, if_true, if_false, Bool.false_eq_true, Bool.true_eq_false, ite_self, cw_neg1, cw_m1a, cw_ztl, cw_zeq, cw_zadd, cw_znadd, cw_nzadd, cw_zsub, cw_zmul, cw_znmul, cw_nzmul, cw_ltNZ, cw_eqZN, cw_eqNZ, cw_ltZN, cw_on, cw_os, cw_c0, cw_c1, cw_c2, cw_c3, cw_c4, cw_c5, cw_c8, cw_c10, cw_c40, cw_c80, cw_c100, cp_144z, cp_140n, cw_mabs, cw_mod8, decide_eq_true_eq, not_false_eq_true, not_true_eq_false, true_and, and_true, false_and, and_false, decide_eq_false_iff_not, Nat.not_lt, Nat.not_le, m, hb]
  refine cw_cv (cw_mono (cp_217 h8 h12 (i := i) (by omega) ((hM.2.2.2.2.2.2.2.2 i hi).2 hb)) ?_)
  intro v I1 J1 ⟨hv, hJ, f1, hT, hs⟩
  subst hv hJ
  refine ⟨rfl, ?_⟩
  refine cw_m (fun _ => cd_s245_18) ?_
  exact cw_ret ⟨rfl, ⟨hM.1.of (fun a k h1 h2 => f1 a k (by omega)), hT, (f1 _ _ (by omega)).trans hM.2.2.1, hs, hM.2.2.2.2.of hK.1 (fun a k h => f1 a k (by omega))⟩, ce_fCr (fun a k h => f1 a k (by omega))⟩
theorem cp_171 (hM : ce_M D S Y I) : cw L w (cd_c 171 [.ref 100] (cd_mm L w I J)) (ce_post (.int (zI (ceP Y))) D S Y I J) := by
  refine cw_c (l := [_]) rfl rfl ?_
  refine cw_m (fun _ => cd_s171_0) ?_
  rw [hM.2.2.2.2.1.2.1]
  exact cw_ret ⟨rfl, hM, ce_fC.rf⟩
end CEW
