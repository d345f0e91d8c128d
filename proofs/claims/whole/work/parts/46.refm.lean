/-! ===== the reference's picture, whole ===== -/
/-- besides den and state: text, its length, the fault's place, wants, events, images -/
abbrev ce_Y : Type := (Nat → Nat) × Nat × Int × Nat × (Nat → Nat → Nat) × List (Nat × Nat) × (Nat → Bool) × (Nat → cd_S)
def ceX (Y : ce_Y) : Nat → Nat := Y.1
def ceN (Y : ce_Y) : Nat := Y.2.1
def ceP (Y : ce_Y) : Int := Y.2.2.1
def ceU (Y : ce_Y) : Nat := Y.2.2.2.1
def ceW (Y : ce_Y) : Nat → Nat → Nat := Y.2.2.2.2.1
def ceE (Y : ce_Y) : List (Nat × Nat) := Y.2.2.2.2.2.1
def ceB (Y : ce_Y) : Nat → Bool := Y.2.2.2.2.2.2.1
def ceK (Y : ce_Y) : Nat → cd_S := Y.2.2.2.2.2.2.2
/-- an image of S stands from place z on -/
def ce_im (D : cd_D) (S : cd_S) (z : Nat) (I : Nat → Nat → Int32) : Prop := (∀ t, t < D 0 0 → I 125 (z + t) = nI (S 1 t) ∧ I 125 (z + 8 + t) = cd_tf ((S 0 1).testBit t)) ∧ (∀ k, k < D 0 2 → I 125 (z + 16 + k) = cd_tf ((S 0 2).testBit k) ∧ I 125 (z + 28 + k) = nI (S 2 k) ∧ I 125 (z + 40 + k) = nI (S 3 k)) ∧ I 125 (z + 52) = nI (S 0 3)
def ce_RY (D : cd_D) (Y : ce_Y) (I : Nat → Nat → Int32) : Prop := (I 100 18 = nI (ceN Y) ∧ I 100 19 = zI (ceP Y) ∧ I 100 54 = nI (ceU Y) ∧ I 100 40 = nI (ceE Y).length) ∧ (∀ j, j < ceN Y → I 113 j = nI (ceX Y j)) ∧ (∀ i, i < ceU Y → ∀ k, k < 5 → I 132 (5 * i + k) = nI (ceW Y i k)) ∧ (∀ j, j < (ceE Y).length → I 120 j = nI ((ceE Y).getD j (0, 0)).1 ∧ I 121 j = nI ((ceE Y).getD j (0, 0)).2) ∧ ∀ i, i < 2 → I 126 i = cd_tf (ceB Y i) ∧ (ceB Y i = true → ce_im D (ceK Y i) (80 * i) I)
/-- the reference holds den, state and the rest -/
def ce_M (D : cd_D) (S : cd_S) (Y : ce_Y) (I : Nat → Nat → Int32) : Prop := cd_refD D I ∧ cd_refS D S I ∧ I 100 38 = nI 0 ∧ I 100 56 = nI (S 0 3) ∧ ce_RY D Y I
def ce_inj (D : cd_D) (S : cd_S) : Prop := ∀ t u, t < D 0 0 → u < D 0 0 → S 1 t = S 1 u → t = u
/-- a state that may stand -/
def ce_okT (D : cd_D) (S : cd_S) : Prop := cd_okS D S ∧ ce_okR D S ∧ ce_inj D S ∧ (∀ k, k < D 0 2 → S 2 k ≠ 2 → S 3 k = 0) ∧ S 0 3 < 2 ^ 31
def ce_okY (D : cd_D) (Y : ce_Y) : Prop := (ceN Y ≤ 500 ∧ -1 ≤ ceP Y ∧ ceP Y ≤ 500 ∧ ceU Y ≤ 4 ∧ (ceE Y).length ≤ 60) ∧ (∀ j, ceX Y j < 256) ∧ (∀ i, i < ceU Y → ceW Y i 0 ≤ 64 ∧ 1 ≤ ceW Y i 1 ∧ ceW Y i 1 ≤ 20 ∧ ceW Y i 2 ≤ 99 ∧ ceW Y i 3 ≤ 1 ∧ ceW Y i 4 ≤ 1) ∧ (∀ j, j < (ceE Y).length → ((ceE Y).getD j (0, 0)).1 < 3 ∧ ((ceE Y).getD j (0, 0)).2 < 12) ∧ ∀ i, i < 2 → ceB Y i = true → ce_okT D (ceK Y i)
def ce_ok (D : cd_D) (S : cd_S) (Y : ce_Y) : Prop := cd_okD D ∧ ce_okT D S ∧ ce_okY D Y
/-- the class's cells stand as they stood -/
def ce_fC (I : Nat → Nat → Int32) (J : Nat → Nat → Int64) (I1 : Nat → Nat → Int32) (J1 : Nat → Nat → Int64) : Prop := (∀ a k, a < 100 → I1 a k = I a k) ∧ ∀ a k, a < 100 → J1 a k = J a k
def ce_post (a : Value) (D : cd_D) (S : cd_S) (Y : ce_Y) (I : Nat → Nat → Int32) (J : Nat → Nat → Int64) : Option Value → (Nat → Nat → Int32) → (Nat → Nat → Int64) → Prop := fun v I1 J1 => v = some a ∧ ce_M D S Y I1 ∧ ce_fC I J I1 J1
section CEG
variable {D : cd_D} {S : cd_S} {Y : ce_Y} {I I1 : Nat → Nat → Int32} {J J1 : Nat → Nat → Int64}
theorem ce_im.of {z : Nat} (h : ce_im D S z I) (g : ∀ k, k < z + 60 → I1 125 k = I 125 k) (h8 : D 0 0 ≤ 8) (h12 : D 0 2 ≤ 12) : ce_im D S z I1 := by
  refine ⟨fun t ht => ?_, fun k hk => ?_, ?_⟩
  · rw [g _ (by omega), g _ (by omega)]; exact h.1 t ht
  · rw [g _ (by omega), g _ (by omega), g _ (by omega)]; exact h.2.1 k hk
  · rw [g _ (by omega)]; exact h.2.2
theorem ce_RY.of (hD : cd_okD D) (h : ce_RY D Y I) (g : ∀ a k, (a = 100 ∧ (k = 18 ∨ k = 19 ∨ k = 54 ∨ k = 40)) ∨ a = 113 ∨ a = 132 ∨ a = 120 ∨ a = 121 ∨ a = 126 ∨ (a = 125 ∧ k < 160) → I1 a k = I a k) : ce_RY D Y I1 := by
  obtain ⟨⟨a1, a2, a3, a4⟩, b, c, d, e⟩ := h
  refine ⟨⟨?_, ?_, ?_, ?_⟩, fun j hj => ?_, fun i hi k hk => ?_, fun j hj => ?_, fun i hi => ?_⟩
  · rw [g _ _ (by omega)]; exact a1
  · rw [g _ _ (by omega)]; exact a2
  · rw [g _ _ (by omega)]; exact a3
  · rw [g _ _ (by omega)]; exact a4
  · rw [g _ _ (by omega)]; exact b j hj
  · rw [g _ _ (by omega)]; exact c i hi k hk
  · rw [g _ _ (by omega), g _ _ (by omega)]; exact d j hj
  · rw [g _ _ (by omega)]
    exact ⟨(e i hi).1, fun h => ((e i hi).2 h).of (fun k hk => g _ _ (by omega)) hD.1.1 hD.1.2.2.1⟩
/-- scratch of the reference -/
def ce_scr (a k : Nat) : Prop := a = 100 ∧ ¬ (k = 0 ∨ k = 7 ∨ k = 9 ∨ k = 15 ∨ k = 16 ∨ k = 18 ∨ k = 19 ∨ k = 38 ∨ k = 40 ∨ k = 54 ∨ k = 56) ∨ 114 ≤ a ∧ a ≤ 119 ∨ 122 ≤ a ∧ a ≤ 124 ∨ 127 ≤ a ∧ a ≤ 131 ∨ a = 125 ∧ 160 ≤ k
theorem ce_M.of (hD : cd_okD D) (h : ce_M D S Y I) (g : ∀ a k, 100 ≤ a → ¬ ce_scr a k → I1 a k = I a k) : ce_M D S Y I1 := by
  obtain ⟨a, b, c, d, e⟩ := h
  refine ⟨a.of (fun a k h1 h2 => g a k (by omega) (by unfold ce_scr; omega)), b.of (fun a k h => g a k (by omega) (by unfold ce_scr; omega)), ?_, ?_, e.of hD (fun a k h => g a k (by omega) (by unfold ce_scr; omega))⟩
  · rw [g _ _ (by decide) (by unfold ce_scr; omega)]; exact c
  · rw [g _ _ (by decide) (by unfold ce_scr; omega)]; exact d
theorem ce_fC.rf : ce_fC I J I J := ⟨fun _ _ _ => rfl, fun _ _ _ => rfl⟩
theorem ce_fC.tr {I2 : Nat → Nat → Int32} {J2 : Nat → Nat → Int64} (h : ce_fC I J I1 J1) (h2 : ce_fC I1 J1 I2 J2) : ce_fC I J I2 J2 := ⟨fun a k ha => (h2.1 a k ha).trans (h.1 a k ha), fun a k ha => (h2.2 a k ha).trans (h.2 a k ha)⟩
theorem ce_eff_ok (h : ce_okT D S) : ce_eqS D (ce_eff S 0) S := by
  refine ⟨ce_eff_geo, fun k hk => ⟨?_, ?_⟩⟩
  · show (bif (0 : Nat).testBit k then 4 else S 2 k) = _
    rw [Nat.zero_testBit]; rfl
  · show (bif Nat.beq (S 2 k) 2 then S 3 k else 0) = _
    rw [cw_beq]
    by_cases h2 : S 2 k = 2
    · rw [decide_eq_true h2]; rfl
    · rw [decide_eq_false h2, h.2.2.2.1 k hk h2]; rfl
end CEG
/-! ===== arguments ===== -/
/-- x is a number below n -/
def ce_ix (x : Int32) (n : Nat) : Bool := decide (0 ≤ x) && decide (x.toInt < n)
theorem ce_ix_t {x : Int32} {n : Nat} (h : ce_ix x n = true) : ∃ t, t < n ∧ x = nI t := by
  unfold ce_ix at h
  rw [Bool.and_eq_true, decide_eq_true_eq, decide_eq_true_eq] at h
  obtain ⟨j, hj, rfl⟩ := nI_of (x := x) (by rw [Int32.not_lt]; exact h.1)
  rw [nI_toInt hj] at h
  exact ⟨j, by omega, rfl⟩
theorem ce_ix_n {t n : Nat} (h : t < n) (hn : n ≤ 2 ^ 31) : ce_ix (nI t) n = true := by
  unfold ce_ix
  rw [decide_eq_true (nI_pos' (by omega)), nI_toInt (by omega), decide_eq_true (show (t : Int) < n by omega)]
  rfl
theorem ce_ixw {x : Int32} {n : Nat} (hn : n < 2 ^ 31) : (decide ((0 : Int64) ≤ x.toInt64) && decide (x.toInt64 ≤ (zI ((n : Int) - 1)).toInt64)) = ce_ix x n := by
  rw [show (0 : Int64) = (0 : Int32).toInt64 from rfl]
  simp only [fa_wide_le]
  unfold ce_ix
  congr 1
  refine decide_eq_decide.mpr ?_
  rw [fa_le, zI_ti (by omega) (by omega)]
  omega
section CEH
variable {L : Nat} {w : Bool} {I : Nat → Nat → Int32} {J : Nat → Nat → Int64} {D : cd_D} {S : cd_S}
theorem cp_141 (hR : cd_refD D I) (hD : cd_okD D) {x : Int32} : cd_c 141 [.ref 100, .int x] (cd_mm L w I J) = some (some (.int (cd_tf (ce_ix x (D 0 0)))), cd_mm L w I J) := by
  have h8 := hD.1.1
  refine cw_eq ?_
  have e := ce_ixw (x := x) (n := D 0 0) (by omega)
  refine cw_c (l := [_, _]) rfl rfl ?_
  refine cw_m (fun _ => cd_s141_0) ?_
  simp (disch := omega) only [cw_l0, cw_l1, cw_l2, cw_l3, cw_l4, cw_l5, cw_l6, cw_l7, cw_l8, cw_l9, cw_l10, cw_l11, cw_l12, cw_l13, cw_l14, cw_l15, cw_l16, cw_l17, cw_l18, cw_l19, cw_l20, cw_l27, cw_l28, cw_l31, cw_l32, cw_l40, cw_l52, cw_l60, cw_l61, cw_l63, cw_l64, cw_l80, cw_l97, cw_l99, cw_l100, cw_l255, cw_l500, cw_l999, cw_l65536, cd_inN, nI_clamp, nI_add, pk_mul, cw_subc, cw_zz, pk_div, cw_ltN, cw_eqN, cw_tf0, cw_tf1, cw_tfa, cw_bi, cw_bl, cw_bv, if_true, if_false, Bool.false_eq_true, Bool.true_eq_false, ite_self, cw_neg1, cw_m1a, cw_ztl, cw_zeq, cw_zadd, cw_znadd, cw_nzadd, cw_zsub, cw_zmul, cw_znmul, cw_nzmul, cw_ltNZ, cw_eqZN, cw_eqNZ, cw_ltZN, cw_on, cw_os, cw_c0, cw_c1, cw_c2, cw_c3, cw_c4, cw_c5, cw_c8, cw_c10, cw_c40, cw_c80, cw_c100, cp_144z, cp_140n, cw_mabs, cw_mod8, decide_eq_true_eq, not_false_eq_true, not_true_eq_false, true_and, and_true, false_and, and_false, decide_eq_false_iff_not, Nat.not_lt, Nat.not_le, cw_sub2, cw_nzsub, cw_znsub, hR.1.1]
  simp (disch := omega) only [cw_l0, cw_l1, cw_l2, cw_l3, cw_l4, cw_l5, cw_l6, cw_l7, cw_l8, cw_l9, cw_l10, cw_l11, cw_l12, cw_l13, cw_l14, cw_l15, cw_l16, cw_l17, cw_l18, cw_l19, cw_l20, cw_l27, cw_l28, cw_l31, cw_l32, cw_l40, cw_l52, cw_l60, cw_l61, cw_l63, cw_l64, cw_l80, cw_l97, cw_l99, cw_l100, cw_l255, cw_l500, cw_l999, cw_l65536, cd_inN, nI_clamp, nI_add, pk_mul, cw_subc, cw_zz, pk_div, cw_ltN, cw_eqN, cw_tf0, cw_tf1, cw_tfa, cw_bi, cw_bl, cw_bv, if_true, if_false, Bool.false_eq_true, Bool.true_eq_false, ite_self, cw_neg1, cw_m1a, cw_ztl, cw_zeq, cw_zadd, cw_znadd, cw_nzadd, cw_zsub, cw_zmul, cw_znmul, cw_nzmul, cw_ltNZ, cw_eqZN, cw_eqNZ, cw_ltZN, cw_on, cw_os, cw_c0, cw_c1, cw_c2, cw_c3, cw_c4, cw_c5, cw_c8, cw_c10, cw_c40, cw_c80, cw_c100, cp_144z, cp_140n, cw_mabs, cw_mod8, decide_eq_true_eq, not_false_eq_true, not_true_eq_false, true_and, and_true, false_and, and_false, decide_eq_false_iff_not, Nat.not_lt, Nat.not_le, cp_138, e]
  refine cw_m (fun _ => cd_s141_9) ?_
  simp (disch := omega) only [cw_l0, cw_l1, cw_l2, cw_l3, cw_l4, cw_l5, cw_l6, cw_l7, cw_l8, cw_l9, cw_l10, cw_l11, cw_l12, cw_l13, cw_l14, cw_l15, cw_l16, cw_l17, cw_l18, cw_l19, cw_l20, cw_l27, cw_l28, cw_l31, cw_l32, cw_l40, cw_l52, cw_l60, cw_l61, cw_l63, cw_l64, cw_l80, cw_l97, cw_l99, cw_l100, cw_l255, cw_l500, cw_l999, cw_l65536, cd_inN, nI_clamp, nI_add, pk_mul, cw_subc, cw_zz, pk_div, cw_ltN, cw_eqN, cw_tf0, cw_tf1, cw_tfa, cw_bi, cw_bl, cw_bv, if_true, if_false, Bool.false_eq_true, Bool.true_eq_false, ite_self, cw_neg1, cw_m1a, cw_ztl, cw_zeq, cw_zadd, cw_znadd, cw_nzadd, cw_zsub, cw_zmul, cw_znmul, cw_nzmul, cw_ltNZ, cw_eqZN, cw_eqNZ, cw_ltZN, cw_on, cw_os, cw_c0, cw_c1, cw_c2, cw_c3, cw_c4, cw_c5, cw_c8, cw_c10, cw_c40, cw_c80, cw_c100, cp_144z, cp_140n, cw_mabs, cw_mod8, decide_eq_true_eq, not_false_eq_true, not_true_eq_false, true_and, and_true, false_and, and_false, decide_eq_false_iff_not, Nat.not_lt, Nat.not_le]
  exact cw_ret ⟨rfl, rfl, rfl⟩
theorem cp_142 (hR : cd_refD D I) (hD : cd_okD D) {x : Int32} : cd_c 142 [.ref 100, .int x] (cd_mm L w I J) = some (some (.int (cd_tf (ce_ix x (D 0 2)))), cd_mm L w I J) := by
  have h8 := hD.1.2.2.1
  refine cw_eq ?_
  have e := ce_ixw (x := x) (n := D 0 2) (by omega)
  refine cw_c (l := [_, _]) rfl rfl ?_
  refine cw_m (fun _ => cd_s142_0) ?_
  simp (disch := omega) only [cw_l0, cw_l1, cw_l2, cw_l3, cw_l4, cw_l5, cw_l6, cw_l7, cw_l8, cw_l9, cw_l10, cw_l11, cw_l12, cw_l13, cw_l14, cw_l15, cw_l16, cw_l17, cw_l18, cw_l19, cw_l20, cw_l27, cw_l28, cw_l31, cw_l32, cw_l40, cw_l52, cw_l60, cw_l61, cw_l63, cw_l64, cw_l80, cw_l97, cw_l99, cw_l100, cw_l255, cw_l500, cw_l999, cw_l65536, cd_inN, nI_clamp, nI_add, pk_mul, cw_subc, cw_zz, pk_div, cw_ltN, cw_eqN, cw_tf0, cw_tf1, cw_tfa, cw_bi, cw_bl, cw_bv, if_true, if_false, Bool.false_eq_true, Bool.true_eq_false, ite_self, cw_neg1, cw_m1a, cw_ztl, cw_zeq, cw_zadd, cw_znadd, cw_nzadd, cw_zsub, cw_zmul, cw_znmul, cw_nzmul, cw_ltNZ, cw_eqZN, cw_eqNZ, cw_ltZN, cw_on, cw_os, cw_c0, cw_c1, cw_c2, cw_c3, cw_c4, cw_c5, cw_c8, cw_c10, cw_c40, cw_c80, cw_c100, cp_144z, cp_140n, cw_mabs, cw_mod8, decide_eq_true_eq, not_false_eq_true, not_true_eq_false, true_and, and_true, false_and, and_false, decide_eq_false_iff_not, Nat.not_lt, Nat.not_le, cw_sub2, cw_nzsub, cw_znsub, hR.1.2.2.1]
  simp (disch := omega) only [cw_l0, cw_l1, cw_l2, cw_l3, cw_l4, cw_l5, cw_l6, cw_l7, cw_l8, cw_l9, cw_l10, cw_l11, cw_l12, cw_l13, cw_l14, cw_l15, cw_l16, cw_l17, cw_l18, cw_l19, cw_l20, cw_l27, cw_l28, cw_l31, cw_l32, cw_l40, cw_l52, cw_l60, cw_l61, cw_l63, cw_l64, cw_l80, cw_l97, cw_l99, cw_l100, cw_l255, cw_l500, cw_l999, cw_l65536, cd_inN, nI_clamp, nI_add, pk_mul, cw_subc, cw_zz, pk_div, cw_ltN, cw_eqN, cw_tf0, cw_tf1, cw_tfa, cw_bi, cw_bl, cw_bv, if_true, if_false, Bool.false_eq_true, Bool.true_eq_false, ite_self, cw_neg1, cw_m1a, cw_ztl, cw_zeq, cw_zadd, cw_znadd, cw_nzadd, cw_zsub, cw_zmul, cw_znmul, cw_nzmul, cw_ltNZ, cw_eqZN, cw_eqNZ, cw_ltZN, cw_on, cw_os, cw_c0, cw_c1, cw_c2, cw_c3, cw_c4, cw_c5, cw_c8, cw_c10, cw_c40, cw_c80, cw_c100, cp_144z, cp_140n, cw_mabs, cw_mod8, decide_eq_true_eq, not_false_eq_true, not_true_eq_false, true_and, and_true, false_and, and_false, decide_eq_false_iff_not, Nat.not_lt, Nat.not_le, cp_138, e]
  refine cw_m (fun _ => cd_s142_9) ?_
  simp (disch := omega) only [cw_l0, cw_l1, cw_l2, cw_l3, cw_l4, cw_l5, cw_l6, cw_l7, cw_l8, cw_l9, cw_l10, cw_l11, cw_l12, cw_l13, cw_l14, cw_l15, cw_l16, cw_l17, cw_l18, cw_l19, cw_l20, cw_l27, cw_l28, cw_l31, cw_l32, cw_l40, cw_l52, cw_l60, cw_l61, cw_l63, cw_l64, cw_l80, cw_l97, cw_l99, cw_l100, cw_l255, cw_l500, cw_l999, cw_l65536, cd_inN, nI_clamp, nI_add, pk_mul, cw_subc, cw_zz, pk_div, cw_ltN, cw_eqN, cw_tf0, cw_tf1, cw_tfa, cw_bi, cw_bl, cw_bv, if_true, if_false, Bool.false_eq_true, Bool.true_eq_false, ite_self, cw_neg1, cw_m1a, cw_ztl, cw_zeq, cw_zadd, cw_znadd, cw_nzadd, cw_zsub, cw_zmul, cw_znmul, cw_nzmul, cw_ltNZ, cw_eqZN, cw_eqNZ, cw_ltZN, cw_on, cw_os, cw_c0, cw_c1, cw_c2, cw_c3, cw_c4, cw_c5, cw_c8, cw_c10, cw_c40, cw_c80, cw_c100, cp_144z, cp_140n, cw_mabs, cw_mod8, decide_eq_true_eq, not_false_eq_true, not_true_eq_false, true_and, and_true, false_and, and_false, decide_eq_false_iff_not, Nat.not_lt, Nat.not_le]
  exact cw_ret ⟨rfl, rfl, rfl⟩
theorem cp_187 (hR : cd_refD D I) (hD : cd_okD D) {x : Int32} : cd_c 187 [.ref 100, .int x] (cd_mm L w I J) = some (some (.int (cd_tf (ce_ix x (D 0 1)))), cd_mm L w I J) := by
  have h8 := hD.1.2.1
  refine cw_eq ?_
  have e := ce_ixw (x := x) (n := D 0 1) (by omega)
  refine cw_c (l := [_, _]) rfl rfl ?_
  refine cw_m (fun _ => cd_s187_0) ?_
  simp (disch := omega) only [cw_l0, cw_l1, cw_l2, cw_l3, cw_l4, cw_l5, cw_l6, cw_l7, cw_l8, cw_l9, cw_l10, cw_l11, cw_l12, cw_l13, cw_l14, cw_l15, cw_l16, cw_l17, cw_l18, cw_l19, cw_l20, cw_l27, cw_l28, cw_l31, cw_l32, cw_l40, cw_l52, cw_l60, cw_l61, cw_l63, cw_l64, cw_l80, cw_l97, cw_l99, cw_l100, cw_l255, cw_l500, cw_l999, cw_l65536, cd_inN, nI_clamp, nI_add, pk_mul, cw_subc, cw_zz, pk_div, cw_ltN, cw_eqN, cw_tf0, cw_tf1, cw_tfa, cw_bi, cw_bl, cw_bv, if_true, if_false, Bool.false_eq_true, Bool.true_eq_false, ite_self, cw_neg1, cw_m1a, cw_ztl, cw_zeq, cw_zadd, cw_znadd, cw_nzadd, cw_zsub, cw_zmul, cw_znmul, cw_nzmul, cw_ltNZ, cw_eqZN, cw_eqNZ, cw_ltZN, cw_on, cw_os, cw_c0, cw_c1, cw_c2, cw_c3, cw_c4, cw_c5, cw_c8, cw_c10, cw_c40, cw_c80, cw_c100, cp_144z, cp_140n, cw_mabs, cw_mod8, decide_eq_true_eq, not_false_eq_true, not_true_eq_false, true_and, and_true, false_and, and_false, decide_eq_false_iff_not, Nat.not_lt, Nat.not_le, cw_sub2, cw_nzsub, cw_znsub, hR.1.2.1]
  simp (disch := omega) only [cw_l0, cw_l1, cw_l2, cw_l3, cw_l4, cw_l5, cw_l6, cw_l7, cw_l8, cw_l9, cw_l10, cw_l11, cw_l12, cw_l13, cw_l14, cw_l15, cw_l16, cw_l17, cw_l18, cw_l19, cw_l20, cw_l27, cw_l28, cw_l31, cw_l32, cw_l40, cw_l52, cw_l60, cw_l61, cw_l63, cw_l64, cw_l80, cw_l97, cw_l99, cw_l100, cw_l255, cw_l500, cw_l999, cw_l65536, cd_inN, nI_clamp, nI_add, pk_mul, cw_subc, cw_zz, pk_div, cw_ltN, cw_eqN, cw_tf0, cw_tf1, cw_tfa, cw_bi, cw_bl, cw_bv, if_true, if_false, Bool.false_eq_true, Bool.true_eq_false, ite_self, cw_neg1, cw_m1a, cw_ztl, cw_zeq, cw_zadd, cw_znadd, cw_nzadd, cw_zsub, cw_zmul, cw_znmul, cw_nzmul, cw_ltNZ, cw_eqZN, cw_eqNZ, cw_ltZN, cw_on, cw_os, cw_c0, cw_c1, cw_c2, cw_c3, cw_c4, cw_c5, cw_c8, cw_c10, cw_c40, cw_c80, cw_c100, cp_144z, cp_140n, cw_mabs, cw_mod8, decide_eq_true_eq, not_false_eq_true, not_true_eq_false, true_and, and_true, false_and, and_false, decide_eq_false_iff_not, Nat.not_lt, Nat.not_le, cp_138, e]
  refine cw_m (fun _ => cd_s187_9) ?_
  simp (disch := omega) only [cw_l0, cw_l1, cw_l2, cw_l3, cw_l4, cw_l5, cw_l6, cw_l7, cw_l8, cw_l9, cw_l10, cw_l11, cw_l12, cw_l13, cw_l14, cw_l15, cw_l16, cw_l17, cw_l18, cw_l19, cw_l20, cw_l27, cw_l28, cw_l31, cw_l32, cw_l40, cw_l52, cw_l60, cw_l61, cw_l63, cw_l64, cw_l80, cw_l97, cw_l99, cw_l100, cw_l255, cw_l500, cw_l999, cw_l65536, cd_inN, nI_clamp, nI_add, pk_mul, cw_subc, cw_zz, pk_div, cw_ltN, cw_eqN, cw_tf0, cw_tf1, cw_tfa, cw_bi, cw_bl, cw_bv, if_true, if_false, Bool.false_eq_true, Bool.true_eq_false, ite_self, cw_neg1, cw_m1a, cw_ztl, cw_zeq, cw_zadd, cw_znadd, cw_nzadd, cw_zsub, cw_zmul, cw_znmul, cw_nzmul, cw_ltNZ, cw_eqZN, cw_eqNZ, cw_ltZN, cw_on, cw_os, cw_c0, cw_c1, cw_c2, cw_c3, cw_c4, cw_c5, cw_c8, cw_c10, cw_c40, cw_c80, cw_c100, cp_144z, cp_140n, cw_mabs, cw_mod8, decide_eq_true_eq, not_false_eq_true, not_true_eq_false, true_and, and_true, false_and, and_false, decide_eq_false_iff_not, Nat.not_lt, Nat.not_le]
  exact cw_ret ⟨rfl, rfl, rfl⟩
theorem ce_ixl {x : Int32} {n : Nat} {h : Int64} (hh : h = (zI ((n : Int) - 1)).toInt64) (hn : n < 2 ^ 31) : (decide ((0 : Int64) ≤ x.toInt64) && decide (x.toInt64 ≤ h)) = ce_ix x n := by rw [hh]; exact ce_ixw hn
theorem cp_143 {x : Int32} : cd_c 143 [.int x] (cd_mm L w I J) = some (some (.int (cd_tf (ce_ix x 1000))), cd_mm L w I J) := by
  refine cw_eq ?_
  have e := ce_ixl (x := x) (n := 1000) (h := 999) rfl (by decide)
  refine cw_c (l := [_]) rfl rfl ?_
  refine cw_m (fun _ => cd_s143_0) ?_
  simp (disch := omega) only [cw_l0, cw_l1, cw_l2, cw_l3, cw_l4, cw_l5, cw_l6, cw_l7, cw_l8, cw_l9, cw_l10, cw_l11, cw_l12, cw_l13, cw_l14, cw_l15, cw_l16, cw_l17, cw_l18, cw_l19, cw_l20, cw_l27, cw_l28, cw_l31, cw_l32, cw_l40, cw_l52, cw_l60, cw_l61, cw_l63, cw_l64, cw_l80, cw_l97, cw_l99, cw_l100, cw_l255, cw_l500, cw_l999, cw_l65536, cd_inN, nI_clamp, nI_add, pk_mul, cw_subc, cw_zz, pk_div, cw_ltN, cw_eqN, cw_tf0, cw_tf1, cw_tfa, cw_bi, cw_bl, cw_bv, if_true, if_false, Bool.false_eq_true, Bool.true_eq_false, ite_self, cw_neg1, cw_m1a, cw_ztl, cw_zeq, cw_zadd, cw_znadd, cw_nzadd, cw_zsub, cw_zmul, cw_znmul, cw_nzmul, cw_ltNZ, cw_eqZN, cw_eqNZ, cw_ltZN, cw_on, cw_os, cw_c0, cw_c1, cw_c2, cw_c3, cw_c4, cw_c5, cw_c8, cw_c10, cw_c40, cw_c80, cw_c100, cp_144z, cp_140n, cw_mabs, cw_mod8, decide_eq_true_eq, not_false_eq_true, not_true_eq_false, true_and, and_true, false_and, and_false, decide_eq_false_iff_not, Nat.not_lt, Nat.not_le, cp_138, e]
  refine cw_m (fun _ => cd_s143_5) ?_
  simp (disch := omega) only [cw_l0, cw_l1, cw_l2, cw_l3, cw_l4, cw_l5, cw_l6, cw_l7, cw_l8, cw_l9, cw_l10, cw_l11, cw_l12, cw_l13, cw_l14, cw_l15, cw_l16, cw_l17, cw_l18, cw_l19, cw_l20, cw_l27, cw_l28, cw_l31, cw_l32, cw_l40, cw_l52, cw_l60, cw_l61, cw_l63, cw_l64, cw_l80, cw_l97, cw_l99, cw_l100, cw_l255, cw_l500, cw_l999, cw_l65536, cd_inN, nI_clamp, nI_add, pk_mul, cw_subc, cw_zz, pk_div, cw_ltN, cw_eqN, cw_tf0, cw_tf1, cw_tfa, cw_bi, cw_bl, cw_bv, if_true, if_false, Bool.false_eq_true, Bool.true_eq_false, ite_self, cw_neg1, cw_m1a, cw_ztl, cw_zeq, cw_zadd, cw_znadd, cw_nzadd, cw_zsub, cw_zmul, cw_znmul, cw_nzmul, cw_ltNZ, cw_eqZN, cw_eqNZ, cw_ltZN, cw_on, cw_os, cw_c0, cw_c1, cw_c2, cw_c3, cw_c4, cw_c5, cw_c8, cw_c10, cw_c40, cw_c80, cw_c100, cp_144z, cp_140n, cw_mabs, cw_mod8, decide_eq_true_eq, not_false_eq_true, not_true_eq_false, true_and, and_true, false_and, and_false, decide_eq_false_iff_not, Nat.not_lt, Nat.not_le]
  exact cw_ret ⟨rfl, rfl, rfl⟩
theorem cp_140x {x : Int32} : cd_c 140 [.int x] (cd_mm L w I J) = some (some (.int (cd_tf (ce_ix x 64))), cd_mm L w I J) := by
  refine cw_eq ?_
  have e := ce_ixl (x := x) (n := 64) (h := 63) rfl (by decide)
  refine cw_c (l := [_]) rfl rfl ?_
  refine cw_m (fun _ => cd_s140_0) ?_
  simp (disch := omega) only [cw_l0, cw_l1, cw_l2, cw_l3, cw_l4, cw_l5, cw_l6, cw_l7, cw_l8, cw_l9, cw_l10, cw_l11, cw_l12, cw_l13, cw_l14, cw_l15, cw_l16, cw_l17, cw_l18, cw_l19, cw_l20, cw_l27, cw_l28, cw_l31, cw_l32, cw_l40, cw_l52, cw_l60, cw_l61, cw_l63, cw_l64, cw_l80, cw_l97, cw_l99, cw_l100, cw_l255, cw_l500, cw_l999, cw_l65536, cd_inN, nI_clamp, nI_add, pk_mul, cw_subc, cw_zz, pk_div, cw_ltN, cw_eqN, cw_tf0, cw_tf1, cw_tfa, cw_bi, cw_bl, cw_bv, if_true, if_false, Bool.false_eq_true, Bool.true_eq_false, ite_self, cw_neg1, cw_m1a, cw_ztl, cw_zeq, cw_zadd, cw_znadd, cw_nzadd, cw_zsub, cw_zmul, cw_znmul, cw_nzmul, cw_ltNZ, cw_eqZN, cw_eqNZ, cw_ltZN, cw_on, cw_os, cw_c0, cw_c1, cw_c2, cw_c3, cw_c4, cw_c5, cw_c8, cw_c10, cw_c40, cw_c80, cw_c100, cp_144z, cp_140n, cw_mabs, cw_mod8, decide_eq_true_eq, not_false_eq_true, not_true_eq_false, true_and, and_true, false_and, and_false, decide_eq_false_iff_not, Nat.not_lt, Nat.not_le, cp_138, e]
  refine cw_m (fun _ => cd_s140_5) ?_
  simp (disch := omega) only [cw_l0, cw_l1, cw_l2, cw_l3, cw_l4, cw_l5, cw_l6, cw_l7, cw_l8, cw_l9, cw_l10, cw_l11, cw_l12, cw_l13, cw_l14, cw_l15, cw_l16, cw_l17, cw_l18, cw_l19, cw_l20, cw_l27, cw_l28, cw_l31, cw_l32, cw_l40, cw_l52, cw_l60, cw_l61, cw_l63, cw_l64, cw_l80, cw_l97, cw_l99, cw_l100, cw_l255, cw_l500, cw_l999, cw_l65536, cd_inN, nI_clamp, nI_add, pk_mul, cw_subc, cw_zz, pk_div, cw_ltN, cw_eqN, cw_tf0, cw_tf1, cw_tfa, cw_bi, cw_bl, cw_bv, if_true, if_false, Bool.false_eq_true, Bool.true_eq_false, ite_self, cw_neg1, cw_m1a, cw_ztl, cw_zeq, cw_zadd, cw_znadd, cw_nzadd, cw_zsub, cw_zmul, cw_znmul, cw_nzmul, cw_ltNZ, cw_eqZN, cw_eqNZ, cw_ltZN, cw_on, cw_os, cw_c0, cw_c1, cw_c2, cw_c3, cw_c4, cw_c5, cw_c8, cw_c10, cw_c40, cw_c80, cw_c100, cp_144z, cp_140n, cw_mabs, cw_mod8, decide_eq_true_eq, not_false_eq_true, not_true_eq_false, true_and, and_true, false_and, and_false, decide_eq_false_iff_not, Nat.not_lt, Nat.not_le]
  exact cw_ret ⟨rfl, rfl, rfl⟩
/-- a number from 1 to 20 -/
def ce_ih (x : Int32) : Bool := decide (1 ≤ x) && decide (x ≤ 20)
theorem ce_ih_t {x : Int32} (h : ce_ih x = true) : ∃ t, 1 ≤ t ∧ t ≤ 20 ∧ x = nI t := by
  unfold ce_ih at h
  rw [Bool.and_eq_true, decide_eq_true_eq, decide_eq_true_eq, fa_le, fa_le] at h
  have h1 : (1 : Int32).toInt = 1 := rfl
  have h2 : (20 : Int32).toInt = 20 := rfl
  obtain ⟨j, hj, rfl⟩ := nI_of (x := x) (by rw [fa_lt, show (0 : Int32).toInt = 0 from rfl]; omega)
  rw [nI_toInt hj] at h
  exact ⟨j, by omega, by omega, rfl⟩
theorem cp_210 {x : Int32} : cd_c 210 [.int x] (cd_mm L w I J) = some (some (.int (cd_tf (ce_ih x))), cd_mm L w I J) := by
  refine cw_eq ?_
  have e : (decide ((1 : Int64) ≤ x.toInt64) && decide (x.toInt64 ≤ (20 : Int64))) = ce_ih x := by
    rw [show (1 : Int64) = (1 : Int32).toInt64 from rfl, show (20 : Int64) = (20 : Int32).toInt64 from rfl]
    simp only [fa_wide_le]
    rfl
  refine cw_c (l := [_]) rfl rfl ?_
  refine cw_m (fun _ => cd_s210_0) ?_
  simp (disch := omega) only [cw_l0, cw_l1, cw_l2, cw_l3, cw_l4, cw_l5, cw_l6, cw_l7, cw_l8, cw_l9, cw_l10, cw_l11, cw_l12, cw_l13, cw_l14, cw_l15, cw_l16, cw_l17, cw_l18, cw_l19, cw_l20, cw_l27, cw_l28, cw_l31, cw_l32, cw_l40, cw_l52, cw_l60, cw_l61, cw_l63, cw_l64, cw_l80, cw_l97, cw_l99, cw_l100, cw_l255, cw_l500, cw_l999, cw_l65536, cd_inN, nI_clamp, nI_add, pk_mul, cw_subc, cw_zz, pk_div, cw_ltN, cw_eqN, cw_tf0, cw_tf1, cw_tfa, cw_bi, cw_bl, cw_bv, if_true, if_false, Bool.false_eq_true, Bool.true_eq_false, ite_self, cw_neg1, cw_m1a, cw_ztl, cw_zeq, cw_zadd, cw_znadd, cw_nzadd, cw_zsub, cw_zmul, cw_znmul, cw_nzmul, cw_ltNZ, cw_eqZN, cw_eqNZ, cw_ltZN, cw_on, cw_os, cw_c0, cw_c1, cw_c2, cw_c3, cw_c4, cw_c5, cw_c8, cw_c10, cw_c40, cw_c80, cw_c100, cp_144z, cp_140n, cw_mabs, cw_mod8, decide_eq_true_eq, not_false_eq_true, not_true_eq_false, true_and, and_true, false_and, and_false, decide_eq_false_iff_not, Nat.not_lt, Nat.not_le, cp_138, e]
  refine cw_m (fun _ => cd_s210_5) ?_
  simp (disch := omega) only [cw_l0, cw_l1, cw_l2, cw_l3, cw_l4, cw_l5, cw_l6, cw_l7, cw_l8, cw_l9, cw_l10, cw_l11, cw_l12, cw_l13, cw_l14, cw_l15, cw_l16, cw_l17, cw_l18, cw_l19, cw_l20, cw_l27, cw_l28, cw_l31, cw_l32, cw_l40, cw_l52, cw_l60, cw_l61, cw_l63, cw_l64, cw_l80, cw_l97, cw_l99, cw_l100, cw_l255, cw_l500, cw_l999, cw_l65536, cd_inN, nI_clamp, nI_add, pk_mul, cw_subc, cw_zz, pk_div, cw_ltN, cw_eqN, cw_tf0, cw_tf1, cw_tfa, cw_bi, cw_bl, cw_bv, if_true, if_false, Bool.false_eq_true, Bool.true_eq_false, ite_self, cw_neg1, cw_m1a, cw_ztl, cw_zeq, cw_zadd, cw_znadd, cw_nzadd, cw_zsub, cw_zmul, cw_znmul, cw_nzmul, cw_ltNZ, cw_eqZN, cw_eqNZ, cw_ltZN, cw_on, cw_os, cw_c0, cw_c1, cw_c2, cw_c3, cw_c4, cw_c5, cw_c8, cw_c10, cw_c40, cw_c80, cw_c100, cp_144z, cp_140n, cw_mabs, cw_mod8, decide_eq_true_eq, not_false_eq_true, not_true_eq_false, true_and, and_true, false_and, and_false, decide_eq_false_iff_not, Nat.not_lt, Nat.not_le]
  exact cw_ret ⟨rfl, rfl, rfl⟩
end CEH
