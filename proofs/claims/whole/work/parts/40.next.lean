/-! ===== the reference: the next event ===== -/
def ce_bmp (o : Option Nat) (b x : Nat) : Nat := if o = some x then b else 0
def ce_prs (D : cd_D) (S : cd_S) (t : Nat) : Int := (D 2 t : Int) + ce_pull D S (fun k => ce_draw D S 2 k + (S 3 k : Int)) t
def ce_n0 (D : cd_D) (S : cd_S) (o : Option Nat) (b : Nat) : Nat → Bool := fun k => cd_held S k && ce_giv D S k (ce_bmp o b (D 12 k) : Nat)
def ce_n1 (D : cd_D) (S : cd_S) (o : Option Nat) (b : Nat) : Nat → Bool := fun t => !(S 0 1).testBit t && decide ((D 2 t : Int) * (D 4 t : Int) < (ce_size D S t + (ce_bmp o b t : Nat)) * (D 1 t : Int))
def ce_n2 (D : cd_D) (S : cd_S) (o : Option Nat) (b : Nat) : Nat → Bool := fun t => decide (ce_prs D S t * (D 3 t : Int) / 10 < ce_size D S t + (ce_bmp o b t : Nat)) && (ce_slid D S t).isSome
/-- the next event: what, which -/
def ce_next (D : cd_D) (S : cd_S) (o : Option Nat) (b : Nat) : Option (Nat × Nat) := match ce_fst (ce_n0 D S o b) (D 0 2) 0 with
  | some k => some (0, k)
  | none => match ce_fst (ce_n1 D S o b) (D 0 0) 0 with
    | some t => some (1, t)
    | none => match ce_fst (ce_n2 D S o b) (D 0 0) 0 with
      | some t => some (2, t)
      | none => none
theorem ce_load_le {D : cd_D} {S : cd_S} (hD : cd_okD D) (k : Nat) : 0 ≤ ce_draw D S 2 k ∧ ce_draw D S 2 k ≤ 1728 := ⟨ce_load_nn D S k, (ce_draw_b (S := S) hD 2 k).2⟩
theorem ce_pull_0 {D : cd_D} {S : cd_S} {f : Nat → Int} (hf : ∀ k, k < D 0 2 → 0 ≤ f k) (t : Nat) : 0 ≤ ce_pull D S f t := ce_sum_nn _ (fun k hk => by
  have := hf k hk
  split <;> omega)
theorem ce_prs_b {D : cd_D} {S : cd_S} (hD : cd_okD D) (hB : ∀ k, k < D 0 2 → S 3 k ≤ 99) {t : Nat} (ht : t < D 0 0) : 0 ≤ ce_prs D S t ∧ ce_prs D S t ≤ 30000 := by
  have h12 := hD.1.2.2.1
  have h2 := (hD.2.1 t ht).2.2.2.1
  have h0 := ce_pull_0 (D := D) (S := S) (f := fun k => ce_draw D S 2 k + (S 3 k : Int)) (fun k _ => by have := (ce_load_le (S := S) hD k).1; omega) t
  have h1 := ce_sum_b (f := fun k => if cd_held S k && Nat.beq (D 12 k) t then ce_draw D S 2 k + (S 3 k : Int) else 0) (b := 2000) (D 0 2) (fun k hk => by
    have := ce_load_le (S := S) hD k
    have := hB k hk
    split <;> omega)
  unfold ce_prs
  have e : ce_pull D S (fun k => ce_draw D S 2 k + (S 3 k : Int)) t = ce_sum (fun k => if cd_held S k && Nat.beq (D 12 k) t then ce_draw D S 2 k + (S 3 k : Int) else 0) (D 0 2) := rfl
  rw [e] at h0 ⊢
  omega
section CEB
variable {L : Nat} {w : Bool} {I : Nat → Nat → Int32} {J : Nat → Nat → Int64} {D : cd_D} {S : cd_S}
theorem ce_eff3 {h k : Nat} : (ce_eff S h 3 k : Int) = if S 2 k = 2 then (S 3 k : Int) else 0 := by
  show ((bif Nat.beq (S 2 k) 2 then S 3 k else 0 : Nat) : Int) = _
  rw [cw_beq]
  by_cases h2 : S 2 k = 2
  · rw [decide_eq_true h2, if_pos h2]; rfl
  · rw [decide_eq_false h2, if_neg h2]; rfl
theorem cp_182 (hD : cd_okD D) (hS : cd_okS D S) (hR : cd_refD D I) (hT : cd_refS D S I) (hN : ce_done D S I) {h t : Nat} (ht : t < D 0 0) : cd_c 182 [.ref 100, .int (nI t)] (cd_mm L w I J) = some (some (.int (zI (ce_prs D (ce_eff S h) t))), cd_mm L w I J) := by
  refine cw_eq ?_
  have h12 := hD.1.2.2.1
  have h8 := hD.1.1
  have r9 := hR.1.2.2.1
  have key : ∀ (A : Nat → Int), A 0 = (D 2 t : Int) → (∀ i, i < D 0 2 → A (i + 1) = A i + if cd_held S i && Nat.beq (D 12 i) t then ce_draw D S 2 i + (ce_eff S h 3 i : Int) else 0) → A (D 0 2) = ce_prs D (ce_eff S h) t → cw L w (cd_c 182 [.ref 100, .int (nI t)] (cd_mm L w I J)) (fun v2 I2 J2 => v2 = some (.int (zI (ce_prs D (ce_eff S h) t))) ∧ I2 = I ∧ J2 = J) := by
    intro A a0 a1 a2
    refine cw_c (l := [_, _, _, _]) rfl rfl ?_
    refine cw_m (fun _ => cd_s182_0) ?_
    simp (disch := omega) only [cw_l0, cw_l1, cw_l2, cw_l3, cw_l4, cw_l5, cw_l6, cw_l7, cw_l8, cw_l9, cw_l10, cw_l11, cw_l12, cw_l13, cw_l14, cw_l15, cw_l16, cw_l17, cw_l18, cw_l19, cw_l20, cw_l27, cw_l28, cw_l31, cw_l32, cw_l40, cw_l52, cw_l60, cw_l61, cw_l63, cw_l64, cw_l80, cw_l97, cw_l99, cw_l100, cw_l255, cw_l500, cw_l999, cw_l65536, cd_inN, nI_clamp, nI_add, pk_mul, cw_subc, cw_zz, pk_div, cw_ltN, cw_eqN, cw_tf0, cw_tf1, cw_tfa, cw_bi, cw_bl, cw_bv, if_true, if_false, Bool.false_eq_true, Bool.true_eq_false, ite_self, cw_neg1, cw_m1a, cw_ztl, cw_zeq, cw_zadd, cw_znadd, cw_nzadd, cw_zsub, cw_zmul, cw_znmul, cw_nzmul, cw_ltNZ, cw_eqZN, cw_eqNZ, cw_ltZN, cw_on, cw_os, cw_c0, cw_c1, cw_c2, cw_c3, cw_c4, cw_c5, cw_c8, cw_c10, cw_c40, cw_c80, cw_c100, cp_144z, cp_140n, cw_mabs, cw_mod8, decide_eq_true_eq, not_false_eq_true, not_true_eq_false, true_and, and_true, false_and, and_false, decide_eq_false_iff_not, Nat.not_lt, Nat.not_le, (hR.2.1 t ht).2.1]
    refine cw_up (fun i (_ : Unit) => cd_go 182 7 [.ref 100, .int (nI t), .int (zI (A i)), .int (nI i)] [] (cd_mm L w I J)) (fun _ _ => True) (D 0 2) ?_ ?_ 0 () (by omega) trivial |> (fun h => by rw [a0, zI_n] at h; exact h)
    · intro _ _
      refine cw_m (fun _ => cd_s182_7) ?_
      simp (disch := omega) only [cw_l0, cw_l1, cw_l2, cw_l3, cw_l4, cw_l5, cw_l6, cw_l7, cw_l8, cw_l9, cw_l10, cw_l11, cw_l12, cw_l13, cw_l14, cw_l15, cw_l16, cw_l17, cw_l18, cw_l19, cw_l20, cw_l27, cw_l28, cw_l31, cw_l32, cw_l40, cw_l52, cw_l60, cw_l61, cw_l63, cw_l64, cw_l80, cw_l97, cw_l99, cw_l100, cw_l255, cw_l500, cw_l999, cw_l65536, cd_inN, nI_clamp, nI_add, pk_mul, cw_subc, cw_zz, pk_div, cw_ltN, cw_eqN, cw_tf0, cw_tf1, cw_tfa, cw_bi, cw_bl, cw_bv, if_true, if_false, Bool.false_eq_true, Bool.true_eq_false, ite_self, cw_neg1, cw_m1a, cw_ztl, cw_zeq, cw_zadd, cw_znadd, cw_nzadd, cw_zsub, cw_zmul, cw_znmul, cw_nzmul, cw_ltNZ, cw_eqZN, cw_eqNZ, cw_ltZN, cw_on, cw_os, cw_c0, cw_c1, cw_c2, cw_c3, cw_c4, cw_c5, cw_c8, cw_c10, cw_c40, cw_c80, cw_c100, cp_144z, cp_140n, cw_mabs, cw_mod8, decide_eq_true_eq, not_false_eq_true, not_true_eq_false, true_and, and_true, false_and, and_false, decide_eq_false_iff_not, Nat.not_lt, Nat.not_le, if_pos, if_neg, r9, a2]
      exact cw_ret ⟨rfl, rfl, rfl⟩
    · intro i _ hi _ K
      have k : ∀ z, z = A (i + 1) → cw L w (cd_go 182 7 [.ref 100, .int (nI t), .int (zI z), .int (nI (i + 1))] [] (cd_mm L w I J)) _ := fun z hz => by rw [hz]; exact K () trivial
      obtain ⟨t2, t3, t4⟩ := hT.2 i hi
      have t1 := (hR.2.2.2 i hi).2
      have t5 := (hN i hi).2.2
      have ht1 := (hD.2.2.2 i hi).2
      have s2 := (hS.2.2.2 i hi).1
      have a1 := a1 i hi
      rw [ce_eff3, cw_beq] at a1
      unfold cd_held at a1
      refine cw_m (fun _ => cd_s182_7) ?_
      simp (disch := omega) only [cw_l0, cw_l1, cw_l2, cw_l3, cw_l4, cw_l5, cw_l6, cw_l7, cw_l8, cw_l9, cw_l10, cw_l11, cw_l12, cw_l13, cw_l14, cw_l15, cw_l16, cw_l17, cw_l18, cw_l19, cw_l20, cw_l27, cw_l28, cw_l31, cw_l32, cw_l40, cw_l52, cw_l60, cw_l61, cw_l63, cw_l64, cw_l80, cw_l97, cw_l99, cw_l100, cw_l255, cw_l500, cw_l999, cw_l65536, cd_inN, nI_clamp, nI_add, pk_mul, cw_subc, cw_zz, pk_div, cw_ltN, cw_eqN, cw_tf0, cw_tf1, cw_tfa, cw_bi, cw_bl, cw_bv, if_true, if_false, Bool.false_eq_true, Bool.true_eq_false, ite_self, cw_neg1, cw_m1a, cw_ztl, cw_zeq, cw_zadd, cw_znadd, cw_nzadd, cw_zsub, cw_zmul, cw_znmul, cw_nzmul, cw_ltNZ, cw_eqZN, cw_eqNZ, cw_ltZN, cw_on, cw_os, cw_c0, cw_c1, cw_c2, cw_c3, cw_c4, cw_c5, cw_c8, cw_c10, cw_c40, cw_c80, cw_c100, cp_144z, cp_140n, cw_mabs, cw_mod8, decide_eq_true_eq, not_false_eq_true, not_true_eq_false, true_and, and_true, false_and, and_false, decide_eq_false_iff_not, Nat.not_lt, Nat.not_le, if_pos, if_neg, r9, t1, t2, t3, t4, t5]
      cases hh : (S 0 2).testBit i with
      | false =>
        simp (disch := omega) only [cw_l0, cw_l1, cw_l2, cw_l3, cw_l4, cw_l5, cw_l6, cw_l7, cw_l8, cw_l9, cw_l10, cw_l11, cw_l12, cw_l13, cw_l14, cw_l15, cw_l16, cw_l17, cw_l18, cw_l19, cw_l20, cw_l27, cw_l28, cw_l31, cw_l32, cw_l40, cw_l52, cw_l60, cw_l61, cw_l63, cw_l64, cw_l80, cw_l97, cw_l99, cw_l100, cw_l255, cw_l500, cw_l999, cw_l65536, cd_inN, nI_clamp, nI_add, pk_mul, cw_subc, cw_zz, pk_div, cw_ltN, cw_eqN, cw_tf0, cw_tf1, cw_tfa, cw_bi, cw_bl, cw_bv, if_true, if_false, Bool.false_eq_true, Bool.true_eq_false, ite_self, cw_neg1, cw_m1a, cw_ztl, cw_zeq, cw_zadd, cw_znadd, cw_nzadd, cw_zsub, cw_zmul, cw_znmul, cw_nzmul, cw_ltNZ, cw_eqZN, cw_eqNZ, cw_ltZN, cw_on, cw_os, cw_c0, cw_c1, cw_c2, cw_c3, cw_c4, cw_c5, cw_c8, cw_c10, cw_c40, cw_c80, cw_c100, cp_144z, cp_140n, cw_mabs, cw_mod8, decide_eq_true_eq, not_false_eq_true, not_true_eq_false, true_and, and_true, false_and, and_false, decide_eq_false_iff_not, Nat.not_lt, Nat.not_le, if_pos, if_neg]
        exact k _ (by rw [a1, hh]; simp)
      | true =>
        by_cases ht2 : D 12 i = t
        · by_cases h2 : S 2 i = 2
          · simp (disch := omega) only [cw_l0, cw_l1, cw_l2, cw_l3, cw_l4, cw_l5, cw_l6, cw_l7, cw_l8, cw_l9, cw_l10, cw_l11, cw_l12, cw_l13, cw_l14, cw_l15, cw_l16, cw_l17, cw_l18, cw_l19, cw_l20, cw_l27, cw_l28, cw_l31, cw_l32, cw_l40, cw_l52, cw_l60, cw_l61, cw_l63, cw_l64, cw_l80, cw_l97, cw_l99, cw_l100, cw_l255, cw_l500, cw_l999, cw_l65536, cd_inN, nI_clamp, nI_add, pk_mul, cw_subc, cw_zz, pk_div, cw_ltN, cw_eqN, cw_tf0, cw_tf1, cw_tfa, cw_bi, cw_bl, cw_bv, if_true, if_false, Bool.false_eq_true, Bool.true_eq_false, ite_self, cw_neg1, cw_m1a, cw_ztl, cw_zeq, cw_zadd, cw_znadd, cw_nzadd, cw_zsub, cw_zmul, cw_znmul, cw_nzmul, cw_ltNZ, cw_eqZN, cw_eqNZ, cw_ltZN, cw_on, cw_os, cw_c0, cw_c1, cw_c2, cw_c3, cw_c4, cw_c5, cw_c8, cw_c10, cw_c40, cw_c80, cw_c100, cp_144z, cp_140n, cw_mabs, cw_mod8, decide_eq_true_eq, not_false_eq_true, not_true_eq_false, true_and, and_true, false_and, and_false, decide_eq_false_iff_not, Nat.not_lt, Nat.not_le, if_pos, if_neg]
            exact k _ (by rw [a1, hh, if_pos h2, ht2]; simp)
          · simp (disch := omega) only [cw_l0, cw_l1, cw_l2, cw_l3, cw_l4, cw_l5, cw_l6, cw_l7, cw_l8, cw_l9, cw_l10, cw_l11, cw_l12, cw_l13, cw_l14, cw_l15, cw_l16, cw_l17, cw_l18, cw_l19, cw_l20, cw_l27, cw_l28, cw_l31, cw_l32, cw_l40, cw_l52, cw_l60, cw_l61, cw_l63, cw_l64, cw_l80, cw_l97, cw_l99, cw_l100, cw_l255, cw_l500, cw_l999, cw_l65536, cd_inN, nI_clamp, nI_add, pk_mul, cw_subc, cw_zz, pk_div, cw_ltN, cw_eqN, cw_tf0, cw_tf1, cw_tfa, cw_bi, cw_bl, cw_bv, if_true, if_false, Bool.false_eq_true, Bool.true_eq_false, ite_self, cw_neg1, cw_m1a, cw_ztl, cw_zeq, cw_zadd, cw_znadd, cw_nzadd, cw_zsub, cw_zmul, cw_znmul, cw_nzmul, cw_ltNZ, cw_eqZN, cw_eqNZ, cw_ltZN, cw_on, cw_os, cw_c0, cw_c1, cw_c2, cw_c3, cw_c4, cw_c5, cw_c8, cw_c10, cw_c40, cw_c80, cw_c100, cp_144z, cp_140n, cw_mabs, cw_mod8, decide_eq_true_eq, not_false_eq_true, not_true_eq_false, true_and, and_true, false_and, and_false, decide_eq_false_iff_not, Nat.not_lt, Nat.not_le, if_pos, if_neg]
            exact k _ (by rw [a1, hh, if_neg h2, ht2]; simp)
        · simp (disch := omega) only [cw_l0, cw_l1, cw_l2, cw_l3, cw_l4, cw_l5, cw_l6, cw_l7, cw_l8, cw_l9, cw_l10, cw_l11, cw_l12, cw_l13, cw_l14, cw_l15, cw_l16, cw_l17, cw_l18, cw_l19, cw_l20, cw_l27, cw_l28, cw_l31, cw_l32, cw_l40, cw_l52, cw_l60, cw_l61, cw_l63, cw_l64, cw_l80, cw_l97, cw_l99, cw_l100, cw_l255, cw_l500, cw_l999, cw_l65536, cd_inN, nI_clamp, nI_add, pk_mul, cw_subc, cw_zz, pk_div, cw_ltN, cw_eqN, cw_tf0, cw_tf1, cw_tfa, cw_bi, cw_bl, cw_bv, if_true, if_false, Bool.false_eq_true, Bool.true_eq_false, ite_self, cw_neg1, cw_m1a, cw_ztl, cw_zeq, cw_zadd, cw_znadd, cw_nzadd, cw_zsub, cw_zmul, cw_znmul, cw_nzmul, cw_ltNZ, cw_eqZN, cw_eqNZ, cw_ltZN, cw_on, cw_os, cw_c0, cw_c1, cw_c2, cw_c3, cw_c4, cw_c5, cw_c8, cw_c10, cw_c40, cw_c80, cw_c100, cp_144z, cp_140n, cw_mabs, cw_mod8, decide_eq_true_eq, not_false_eq_true, not_true_eq_false, true_and, and_true, false_and, and_false, decide_eq_false_iff_not, Nat.not_lt, Nat.not_le, if_pos, if_neg]
          exact k _ (by rw [a1, hh, decide_eq_false ht2]; simp)
  refine key (fun i => (D 2 t : Int) + ce_sum (fun k => if cd_held (ce_eff S h) k && Nat.beq (D 12 k) t then ce_draw D (ce_eff S h) 2 k + (ce_eff S h 3 k : Int) else 0) i) (by show (D 2 t : Int) + 0 = _; omega) (fun i hi => ?_) rfl
  rw [ce_sum_s, (ce_eff_geo (D := D)).held, ce_eff_geo.draw hD hi]
  omega
end CEB
