/-! ===== the reference: most, fewest ===== -/
theorem cw_sh1 {n : Nat} (h : n < 31) : nI 1 <<< (nI n &&& nI 31) = nI (2 ^ n) := by
  have := pk_shlN (n := 1) (nI n &&& 31) n (s_l n (by omega)) (by rw [Nat.one_mul]; exact Nat.pow_lt_pow_right (by decide) (by omega))
  rw [Nat.one_mul] at this
  exact this
theorem ce_pw {n : Nat} (h : n ≤ 12) : 2 ^ n ≤ 4096 := Nat.pow_le_pow_right (by decide) h
theorem ce_pw3 {n : Nat} (h : n ≤ 7) : 3 ^ n ≤ 2187 := Nat.pow_le_pow_right (by decide) h
def ce_sc2 (a k : Nat) : Prop := ce_scr a k ∨ a = 101 ∨ a = 106 ∨ 110 ≤ a ∧ a ≤ 112 ∨ a = 100 ∧ k = 56
/-- the state stands in its cells and in the image for tries -/
def ce_t2 (D : cd_D) (S : cd_S) (I I1 : Nat → Nat → Int32) : Prop := (∀ a k, ¬ ce_sc2 a k → I1 a k = I a k) ∧ cd_refS D S I1 ∧ I1 100 56 = nI (S 0 3) ∧ ce_im D S 160 I1
/-- tried, with the image still there -/
def ce_t3 (D : cd_D) (S T : cd_S) (I I1 : Nat → Nat → Int32) : Prop := (∀ a k, ¬ ce_sc2 a k → I1 a k = I a k) ∧ cd_refS D T I1 ∧ ce_im D S 160 I1
def ce_fits (D : cd_D) (T : cd_S) (p q : Nat) : Bool := decide (fa_cnt (fun k => Nat.beq (T 2 k) 1) (D 0 2) ≤ p) && decide (fa_cnt (fun k => Nat.beq (T 2 k) 2) (D 0 2) ≤ q)
noncomputable def ce_mo (D : cd_D) (S : cd_S) (h p q : Nat) : Nat → Int × Nat
  | 0 => (-1, 0)
  | row + 1 => if ce_fits D (ce_hb D S row 3) p q && decide ((ce_mo D S h p q row).1 < (ce_gs (ce_rm D (ce_run D 60 (ce_hb D S row 3) none 0).2 h) : Int)) then ((ce_gs (ce_rm D (ce_run D 60 (ce_hb D S row 3) none 0).2 h) : Int), row) else ce_mo D S h p q row
def ce_lto : Option Nat → Nat → Bool
  | none, _ => true
  | some m, x => decide (x < m)
def ce_pgs (D : cd_D) (S : cd_S) (row : Nat) : Nat := fa_cnt (fun k => Nat.beq (ce_hb D S row 2 2 k) 1) (D 0 2)
def ce_fe (D : cd_D) (S : cd_S) : Nat → Option Nat
  | 0 => none
  | row + 1 => if ce_lto (ce_fe D S row) (ce_pgs D S row) && (ce_next D (ce_hb D S row 2) none 0).isNone then some (ce_pgs D S row) else ce_fe D S row
theorem ce_hb2 {D : cd_D} {S : cd_S} {row base k : Nat} : ce_hb D S row base 2 k = row / base ^ (D 0 2 - 1 - k) % base := rfl
theorem ce_hb3 {D : cd_D} {S : cd_S} {row base k : Nat} : ce_hb D S row base 3 k = if row / base ^ (D 0 2 - 1 - k) % base = 2 then 20 else 0 := rfl
theorem ce_hb_ok {D : cd_D} {S : cd_S} {row base : Nat} (h : ce_okT D S) (hb : base = 2 ∨ base = 3) : ce_okT D (ce_hb D S row base) := by
  have hm : ∀ k, ce_hb D S row base 2 k < 3 := fun k => by
    rw [ce_hb2]
    have := Nat.mod_lt (row / base ^ (D 0 2 - 1 - k)) (show 0 < base by omega)
    omega
  refine ⟨⟨h.1.1, h.1.2.1, ce_msk_lt _ _, fun k hk => ⟨by have := hm k; omega, ?_⟩⟩, fun k hk hh => ?_, h.2.2.1, fun k hk h2 => ?_, h.2.2.2.2⟩
  · rw [ce_hb3]; split <;> omega
  · have h3 : (ce_msk (fun j => cd_und D (D 11 j) (S 1 (D 12 j))) (D 0 2)).testBit k = true := hh
    rw [ce_msk_tb, Bool.and_eq_true] at h3
    exact h3.2
  · rw [ce_hb2] at h2
    rw [ce_hb3, if_neg h2]
theorem ce_gs_b {P : Nat → Bool} : ce_gs P ≤ 64 := by
  unfold ce_gs
  cases ce_gt P with
  | none => exact Nat.zero_le _
  | some f => exact fa_cnt_le _ _
section CES
variable {L : Nat} {w : Bool} {I : Nat → Nat → Int32} {J : Nat → Nat → Int64} {D : cd_D} {S : cd_S}
variable {Y : ce_Y} {T : cd_S}
theorem ce_t2.M {I1 : Nat → Nat → Int32} (hD : cd_okD D) (hM : ce_M D S Y I) (h : ce_t2 D S I I1) : ce_M D S Y I1 := ⟨hM.1.of (fun a k h1 h2 => h.1 a k (by unfold ce_sc2 ce_scr; omega)), h.2.1, by rw [h.1 _ _ (by unfold ce_sc2 ce_scr; omega)]; exact hM.2.2.1, h.2.2.1, hM.2.2.2.2.of hD (fun a k h2 => h.1 a k (by unfold ce_sc2 ce_scr; omega))⟩
theorem ce_t3.R {I1 : Nat → Nat → Int32} (hR : cd_refD D I) (h : ce_t3 D S T I I1) : cd_refD D I1 := hR.of (fun a k h1 h2 => h.1 a k (by unfold ce_sc2 ce_scr; omega))
theorem ce_t3.H {I1 : Nat → Nat → Int32} (h0 : I 100 38 = nI 0) (h : ce_t3 D S T I I1) : I1 100 38 = nI 0 := by rw [h.1 _ _ (by unfold ce_sc2 ce_scr; omega)]; exact h0
theorem ce_t3.sc {I1 I2 : Nat → Nat → Int32} (h : ce_t3 D S T I I1) (h8 : D 0 0 ≤ 8) (h12 : D 0 2 ≤ 12) (f : ∀ a k, ¬ ce_sc2 a k → I2 a k = I1 a k) (g : ∀ a k, a = 125 → I2 a k = I1 a k) {T2 : cd_S} (hT : cd_refS D T2 I2) : ce_t3 D S T2 I I2 := ⟨fun a k hk => (f a k hk).trans (h.1 a k hk), hT, h.2.2.of (fun k _ => g _ _ rfl) h8 h12⟩
/-- save for tries -/
theorem cp_216t (hK : ce_ok D S Y) (hM : ce_M D S Y I) : cw L w (cd_c 216 [.ref 100, .int (nI 2)] (cd_mm L w I J)) (fun v I1 J1 => v = none ∧ J1 = J ∧ ce_t3 D S S I I1 ∧ I1 100 56 = nI (S 0 3)) := by
  refine cw_mono (cp_216 hK.1.1.1 hK.1.1.2.2.1 hM.2.1 hM.2.2.2.1 (i := 2) (by decide)) ?_
  intro v I1 J1 ⟨hv, hJ, f1, hi⟩
  exact ⟨hv, hJ, ⟨fun a k h => f1 a k (by unfold ce_sc2 ce_scr at h; omega), hM.2.1.of (fun a k h => f1 a k (by omega)), hi⟩, by rw [f1 _ _ (by omega)]; exact hM.2.2.2.1⟩
/-- load behind a try -/
theorem cp_217t (hD : cd_okD D) {I1 : Nat → Nat → Int32} (h : ce_t3 D S T I I1) : cw L w (cd_c 217 [.ref 100, .int (nI 2)] (cd_mm L w I1 J)) (fun v I2 J1 => v = none ∧ J1 = J ∧ ce_t3 D S S I I2 ∧ I2 100 56 = nI (S 0 3) ∧ ∀ a k, (a = 100 ∧ k ≠ 56 ∨ 113 ≤ a) → I2 a k = I1 a k) := by
  refine cw_mono (cp_217 hD.1.1 hD.1.2.2.1 (i := 2) (by decide) h.2.2) ?_
  intro v I2 J1 ⟨hv, hJ, f2, hT, h56⟩
  exact ⟨hv, hJ, h.sc hD.1.1 hD.1.2.2.1 (fun a k hk => f2 a k (by unfold ce_sc2 at hk; omega)) (fun a k ha => f2 a k (by omega)) hT, h56, fun a k hk => f2 _ _ (by omega)⟩
theorem cp_221 (hK : ce_ok D S Y) (hM : ce_M D S Y I) (h7 : D 0 2 ≤ 7) {h p q : Nat} (hh : h < 2 ^ 20) (hp : p ≤ 12) (hq : q ≤ 12) : cw L w (cd_c 221 [.ref 100, .int (nI h), .int (nI p), .int (nI q)] (cd_mm L w I J)) (fun v I1 J1 => v = some (.int (zI (ce_mo D S h p q (3 ^ D 0 2)).1)) ∧ J1 = J ∧ ce_M D S Y I1 ∧ (∀ a k, a < 100 → I1 a k = I a k) ∧ I1 100 48 = nI (ce_mo D S h p q (3 ^ D 0 2)).2) := by
  have h8 := hK.1.1.1
  have h12 := hK.1.1.2.2.1
  have h3 := ce_pw3 h7
  have hmb : ∀ n, -1 ≤ (ce_mo D S h p q n).1 ∧ (ce_mo D S h p q n).1 ≤ 64 := by
    intro n
    induction n with
    | zero => exact ⟨by show (-1 : Int) ≤ -1; omega, by show (-1 : Int) ≤ 64; omega⟩
    | succ n ih =>
      have := @ce_gs_b (ce_rm D (ce_run D 60 (ce_hb D S n 3) none 0).2 h)
      unfold ce_mo
      split
      · dsimp only; omega
      · exact ih
  refine cw_c (l := [_, _, _, _, _, _, _, _, _]) rfl rfl ?_
  refine cw_m (fun _ => cd_s221_0) ?_
  refine cw_cv (cw_mono (cp_216t hK hM) ?_)
  intro v I0 J0 ⟨hv, hJ, t0, hs0⟩
  subst hv hJ
  refine ⟨rfl, ?_⟩
  refine cw_m (fun _ => cd_s221_3) ?_
  have hR0 := t0.R hM.1
  have c0 := cp_220 (L := L) (w := w) (I := cd_up I0 100 48 (nI 0)) (J := J0) (b := 3) (by decide) h12
  simp (disch := omega) only [cw_l0, cw_l1, cw_l2, cw_l3, cw_l4, cw_l5, cw_l6, cw_l7, cw_l8, cw_l9, cw_l10, cw_l11, cw_l12, cw_l13, cw_l14, cw_l15, cw_l16, cw_l17, cw_l18, cw_l19, cw_l20, cw_l27, cw_l28, cw_l31, cw_l32, cw_l40, cw_l52, cw_l60, cw_l61, cw_l63, cw_l64, cw_l80, cw_l97, cw_l99, cw_l100, cw_l255, cw_l500, cw_l999, cw_l65536, cd_inN, nI_clamp, nI_add, pk_mul, cw_subc, cw_zz, pk_div, cw_ltN, cw_eqN, cw_tf0, cw_tf1, cw_tfa, cw_bi, cw_bl, cw_bv, if_true, if_false, Bool.false_eq_true, Bool.true_eq_false, ite_self, cw_neg1, cw_m1a, cw_ztl, cw_zeq, cw_zadd, cw_znadd, cw_nzadd, cw_zsub, cw_zmul, cw_znmul, cw_nzmul, cw_ltNZ, cw_eqZN, cw_eqNZ, cw_ltZN, cw_on, cw_os, cw_c0, cw_c1, cw_c2, cw_c3, cw_c4, cw_c5, cw_c8, cw_c10, cw_c40, cw_c80, cw_c100, cp_144z, cp_140n, cw_mabs, cw_mod8, decide_eq_true_eq, not_false_eq_true, not_true_eq_false, true_and, and_true, false_and, and_false, decide_eq_false_iff_not, Nat.not_lt, Nat.not_le, if_pos, if_neg, cw_uu, hR0.1.2.2.1, c0]
  refine cw_m (fun _ => cd_s221_12) ?_
  refine cw_up (fun row (s : (Nat → Nat → Int32) × Value × Value) => cd_go 221 15 [.ref 100, .int (nI h), .int (nI p), .int (nI q), .int (zI (ce_mo D S h p q row).1), .int (nI (3 ^ D 0 2)), .int (nI row), s.2.1, s.2.2] [] (cd_mm L w s.1 J0)) (fun row s => ce_t3 D S S I s.1 ∧ s.1 100 56 = nI (S 0 3) ∧ s.1 100 48 = nI (ce_mo D S h p q row).2) (3 ^ D 0 2) ?_ ?_ 0 (cd_up I0 100 48 (nI 0), .null, .null) (Nat.zero_le _) ⟨t0.sc h8 h12 (fun a k hk => cd_up_k2 (by unfold ce_sc2 ce_scr at hk; omega)) (fun a k ha => cd_up_a (by omega)) (t0.2.1.of (fun a k hk => cd_up_a (by omega))), (show cd_up I0 100 48 (nI 0) 100 56 = nI (S 0 3) from (cd_up_k (by decide)).trans hs0), (show cd_up I0 100 48 (nI 0) 100 48 = nI 0 from cd_up_s)⟩
  · intro ⟨I1, u7, u8⟩ ⟨t1, s1, b1⟩
    refine cw_m (fun _ => cd_s221_15) ?_
    simp (disch := omega) only [cw_l0, cw_l1, cw_l2, cw_l3, cw_l4, cw_l5, cw_l6, cw_l7, cw_l8, cw_l9, cw_l10, cw_l11, cw_l12, cw_l13, cw_l14, cw_l15, cw_l16, cw_l17, cw_l18, cw_l19, cw_l20, cw_l27, cw_l28, cw_l31, cw_l32, cw_l40, cw_l52, cw_l60, cw_l61, cw_l63, cw_l64, cw_l80, cw_l97, cw_l99, cw_l100, cw_l255, cw_l500, cw_l999, cw_l65536, cd_inN, nI_clamp, nI_add, pk_mul, cw_subc, cw_zz, pk_div, cw_ltN, cw_eqN, cw_tf0, cw_tf1, cw_tfa, cw_bi, cw_bl, cw_bv, if_true, if_false, Bool.false_eq_true, Bool.true_eq_false, ite_self, cw_neg1, cw_m1a, cw_ztl, cw_zeq, cw_zadd, cw_znadd, cw_nzadd, cw_zsub, cw_zmul, cw_znmul, cw_nzmul, cw_ltNZ, cw_eqZN, cw_eqNZ, cw_ltZN, cw_on, cw_os, cw_c0, cw_c1, cw_c2, cw_c3, cw_c4, cw_c5, cw_c8, cw_c10, cw_c40, cw_c80, cw_c100, cp_144z, cp_140n, cw_mabs, cw_mod8, decide_eq_true_eq, not_false_eq_true, not_true_eq_false, true_and, and_true, false_and, and_false, decide_eq_false_iff_not, Nat.not_lt, Nat.not_le, if_pos, if_neg]
    refine cw_ret ⟨rfl, rfl, ce_t2.M hK.1 hM ⟨t1.1, t1.2.1, s1, t1.2.2⟩, fun a k ha => t1.1 a k (by unfold ce_sc2 ce_scr; omega), b1⟩
  · intro row ⟨I1, u7, u8⟩ hrow ⟨t1, s1, b1⟩ K
    replace t1 : ce_t3 D S S I I1 := t1
    replace s1 : I1 100 56 = nI (S 0 3) := s1
    replace b1 : I1 100 48 = nI (ce_mo D S h p q row).2 := b1
    have hb := ce_hb_ok (row := row) hK.2.1 (Or.inr rfl)
    have hm := hmb row
    -- behind the load
    have fin : ∀ (I2 : Nat → Nat → Int32) (u7 u8 : Value) (x : Int × Nat), x = ce_mo D S h p q (row + 1) → (∃ T, ce_t3 D S T I I2) → I2 100 48 = nI x.2 → cw L w ((cd_cv (cd_c 217 [.ref 100, .int (nI 2)] (cd_mm L w I2 J0))).bind fun m => cd_go 221 64 [.ref 100, .int (nI h), .int (nI p), .int (nI q), .int (zI x.1), .int (nI (3 ^ D 0 2)), .int (nI row), u7, u8] [] m) (fun v I1 J1 => v = some (.int (zI (ce_mo D S h p q (3 ^ D 0 2)).1)) ∧ J1 = J0 ∧ ce_M D S Y I1 ∧ (∀ a k, a < 100 → I1 a k = I a k) ∧ I1 100 48 = nI (ce_mo D S h p q (3 ^ D 0 2)).2) := by
      intro I2 u7 u8 x hx ⟨T, t2⟩ h48
      refine cw_cv (cw_mono (cp_217t hK.1 t2) ?_)
      intro v I3 J3 ⟨hv, hJ, t3, s3, g3⟩
      subst hv hJ
      refine ⟨rfl, ?_⟩
      refine cw_m (fun _ => cd_s221_64) ?_
      simp (disch := omega) only [cw_l0, cw_l1, cw_l2, cw_l3, cw_l4, cw_l5, cw_l6, cw_l7, cw_l8, cw_l9, cw_l10, cw_l11, cw_l12, cw_l13, cw_l14, cw_l15, cw_l16, cw_l17, cw_l18, cw_l19, cw_l20, cw_l27, cw_l28, cw_l31, cw_l32, cw_l40, cw_l52, cw_l60, cw_l61, cw_l63, cw_l64, cw_l80, cw_l97, cw_l99, cw_l100, cw_l255, cw_l500, cw_l999, cw_l65536, cd_inN, nI_clamp, nI_add, pk_mul, cw_subc, cw_zz, pk_div, cw_ltN, cw_eqN, cw_tf0, cw_tf1, cw_tfa, cw_bi, cw_bl, cw_bv, if_true, if_false, Bool.false_eq_true, Bool.true_eq_false, ite_self, cw_neg1, cw_m1a, cw_ztl, cw_zeq, cw_zadd, cw_znadd, cw_nzadd, cw_zsub, cw_zmul, cw_znmul, cw_nzmul, cw_ltNZ, cw_eqZN, cw_eqNZ, cw_ltZN, cw_on, cw_os, cw_c0, cw_c1, cw_c2, cw_c3, cw_c4, cw_c5, cw_c8, cw_c10, cw_c40, cw_c80, cw_c100, cp_144z, cp_140n, cw_mabs, cw_mod8, decide_eq_true_eq, not_false_eq_true, not_true_eq_false, true_and, and_true, false_and, and_false, decide_eq_false_iff_not, Nat.not_lt, Nat.not_le]
      rw [hx] at h48 ⊢
      exact K (I3, u7, u8) ⟨t3, s3, (g3 100 48 (by omega)).trans h48⟩
    have no : ce_fits D (ce_hb D S row 3) p q = false → ce_mo D S h p q row = ce_mo D S h p q (row + 1) := fun hf => by
      show _ = if ce_fits D (ce_hb D S row 3) p q && _ then _ else ce_mo D S h p q row
      rw [hf]
      rfl
    refine cw_m (fun _ => cd_s221_15) ?_
    simp (disch := omega) only [cw_l0, cw_l1, cw_l2, cw_l3, cw_l4, cw_l5, cw_l6, cw_l7, cw_l8, cw_l9, cw_l10, cw_l11, cw_l12, cw_l13, cw_l14, cw_l15, cw_l16, cw_l17, cw_l18, cw_l19, cw_l20, cw_l27, cw_l28, cw_l31, cw_l32, cw_l40, cw_l52, cw_l60, cw_l61, cw_l63, cw_l64, cw_l80, cw_l97, cw_l99, cw_l100, cw_l255, cw_l500, cw_l999, cw_l65536, cd_inN, nI_clamp, nI_add, pk_mul, cw_subc, cw_zz, pk_div, cw_ltN, cw_eqN, cw_tf0, cw_tf1, cw_tfa, cw_bi, cw_bl, cw_bv, if_true, if_false, Bool.false_eq_true, Bool.true_eq_false, ite_self, cw_neg1, cw_m1a, cw_ztl, cw_zeq, cw_zadd, cw_znadd, cw_nzadd, cw_zsub, cw_zmul, cw_znmul, cw_nzmul, cw_ltNZ, cw_eqZN, cw_eqNZ, cw_ltZN, cw_on, cw_os, cw_c0, cw_c1, cw_c2, cw_c3, cw_c4, cw_c5, cw_c8, cw_c10, cw_c40, cw_c80, cw_c100, cp_144z, cp_140n, cw_mabs, cw_mod8, decide_eq_true_eq, not_false_eq_true, not_true_eq_false, true_and, and_true, false_and, and_false, decide_eq_false_iff_not, Nat.not_lt, Nat.not_le, if_pos, if_neg]
    refine cw_cv (cw_mono (cp_218 hK.1 hK.2.1.1 (t1.R hM.1) t1.2.1 (row := row) (base := 3) (by omega) (Or.inr rfl)) ?_)
    intro v I2 J2 ⟨hv, hJ, f2, hT2⟩
    subst hv hJ
    refine ⟨rfl, ?_⟩
    have t2 : ce_t3 D S (ce_hb D S row 3) I I2 := t1.sc h8 h12 (fun a k hk => f2 a k (by unfold ce_sc2 at hk; omega)) (fun a k ha => f2 a k (by omega)) hT2
    have b2 : I2 100 48 = nI (ce_mo D S h p q row).2 := by rw [f2 _ _ (by omega)]; exact b1
    have hR2 := t2.R hM.1
    have c1 := cp_219 (L := L) (w := w) (J := J2) hK.1 hb.1 hR2 hT2 (q := 1) (by decide)
    have c2 := cp_219 (L := L) (w := w) (J := J2) hK.1 hb.1 hR2 hT2 (q := 2) (by decide)
    have l1 := fa_cnt_le (fun k => Nat.beq (ce_hb D S row 3 2 k) 1) (D 0 2)
    have l2 := fa_cnt_le (fun k => Nat.beq (ce_hb D S row 3 2 k) 2) (D 0 2)
    refine cw_m (fun _ => cd_s221_22) ?_
    simp (disch := omega) only [cw_l0, cw_l1, cw_l2, cw_l3, cw_l4, cw_l5, cw_l6, cw_l7, cw_l8, cw_l9, cw_l10, cw_l11, cw_l12, cw_l13, cw_l14, cw_l15, cw_l16, cw_l17, cw_l18, cw_l19, cw_l20, cw_l27, cw_l28, cw_l31, cw_l32, cw_l40, cw_l52, cw_l60, cw_l61, cw_l63, cw_l64, cw_l80, cw_l97, cw_l99, cw_l100, cw_l255, cw_l500, cw_l999, cw_l65536, cd_inN, nI_clamp, nI_add, pk_mul, cw_subc, cw_zz, pk_div, cw_ltN, cw_eqN, cw_tf0, cw_tf1, cw_tfa, cw_bi, cw_bl, cw_bv, if_true, if_false, Bool.false_eq_true, Bool.true_eq_false, ite_self, cw_neg1, cw_m1a, cw_ztl, cw_zeq, cw_zadd, cw_znadd, cw_nzadd, cw_zsub, cw_zmul, cw_znmul, cw_nzmul, cw_ltNZ, cw_eqZN, cw_eqNZ, cw_ltZN, cw_on, cw_os, cw_c0, cw_c1, cw_c2, cw_c3, cw_c4, cw_c5, cw_c8, cw_c10, cw_c40, cw_c80, cw_c100, cp_144z, cp_140n, cw_mabs, cw_mod8, decide_eq_true_eq, not_false_eq_true, not_true_eq_false, true_and, and_true, false_and, and_false, decide_eq_false_iff_not, Nat.not_lt, Nat.not_le, c1]
    refine cw_m (fun _ => cd_s221_25) ?_
    by_cases q1 : fa_cnt (fun k => Nat.beq (ce_hb D S row 3 2 k) 1) (D 0 2) ≤ p
    · simp (disch := omega) only [cw_l0, cw_l1, cw_l2, cw_l3, cw_l4, cw_l5, cw_l6, cw_l7, cw_l8, cw_l9, cw_l10, cw_l11, cw_l12, cw_l13, cw_l14, cw_l15, cw_l16, cw_l17, cw_l18, cw_l19, cw_l20, cw_l27, cw_l28, cw_l31, cw_l32, cw_l40, cw_l52, cw_l60, cw_l61, cw_l63, cw_l64, cw_l80, cw_l97, cw_l99, cw_l100, cw_l255, cw_l500, cw_l999, cw_l65536, cd_inN, nI_clamp, nI_add, pk_mul, cw_subc, cw_zz, pk_div, cw_ltN, cw_eqN, cw_tf0, cw_tf1, cw_tfa, cw_bi, cw_bl, cw_bv, if_true, if_false, Bool.false_eq_true, Bool.true_eq_false, ite_self, cw_neg1, cw_m1a, cw_ztl, cw_zeq, cw_zadd, cw_znadd, cw_nzadd, cw_zsub, cw_zmul, cw_znmul, cw_nzmul, cw_ltNZ, cw_eqZN, cw_eqNZ, cw_ltZN, cw_on, cw_os, cw_c0, cw_c1, cw_c2, cw_c3, cw_c4, cw_c5, cw_c8, cw_c10, cw_c40, cw_c80, cw_c100, cp_144z, cp_140n, cw_mabs, cw_mod8, decide_eq_true_eq, not_false_eq_true, not_true_eq_false, true_and, and_true, false_and, and_false, decide_eq_false_iff_not, Nat.not_lt, Nat.not_le, if_pos, if_neg, c2]
      refine cw_m (fun _ => cd_s221_30) ?_
      by_cases q2 : fa_cnt (fun k => Nat.beq (ce_hb D S row 3 2 k) 2) (D 0 2) ≤ q
      · have hfit : ce_fits D (ce_hb D S row 3) p q = true := by
          unfold ce_fits
          rw [decide_eq_true q1, decide_eq_true q2]
          rfl
        have mo1 : ce_mo D S h p q (row + 1) = if (ce_mo D S h p q row).1 < (ce_gs (ce_rm D (ce_run D 60 (ce_hb D S row 3) none 0).2 h) : Int) then ((ce_gs (ce_rm D (ce_run D 60 (ce_hb D S row 3) none 0).2 h) : Int), row) else ce_mo D S h p q row := by
          show (if ce_fits D (ce_hb D S row 3) p q && _ then _ else ce_mo D S h p q row) = _
          rw [hfit, Bool.true_and]
          simp only [decide_eq_true_eq]
        simp (disch := omega) only [cw_l0, cw_l1, cw_l2, cw_l3, cw_l4, cw_l5, cw_l6, cw_l7, cw_l8, cw_l9, cw_l10, cw_l11, cw_l12, cw_l13, cw_l14, cw_l15, cw_l16, cw_l17, cw_l18, cw_l19, cw_l20, cw_l27, cw_l28, cw_l31, cw_l32, cw_l40, cw_l52, cw_l60, cw_l61, cw_l63, cw_l64, cw_l80, cw_l97, cw_l99, cw_l100, cw_l255, cw_l500, cw_l999, cw_l65536, cd_inN, nI_clamp, nI_add, pk_mul, cw_subc, cw_zz, pk_div, cw_ltN, cw_eqN, cw_tf0, cw_tf1, cw_tfa, cw_bi, cw_bl, cw_bv, if_true, if_false, Bool.false_eq_true, Bool.true_eq_false, ite_self, cw_neg1, cw_m1a, cw_ztl, cw_zeq, cw_zadd, cw_znadd, cw_nzadd, cw_zsub, cw_zmul, cw_znmul, cw_nzmul, cw_ltNZ, cw_eqZN, cw_eqNZ, cw_ltZN, cw_on, cw_os, cw_c0, cw_c1, cw_c2, cw_c3, cw_c4, cw_c5, cw_c8, cw_c10, cw_c40, cw_c80, cw_c100, cp_144z, cp_140n, cw_mabs, cw_mod8, decide_eq_true_eq, not_false_eq_true, not_true_eq_false, true_and, and_true, false_and, and_false, decide_eq_false_iff_not, Nat.not_lt, Nat.not_le, if_pos, if_neg]
        refine cw_ci (cw_mono (cp_195w hK.1 hb hR2 hT2 (t2.H hM.2.2.1) (o := none) (b := 0) (by decide) (fun t q => by cases q)) ?_)
        have hl := ce_run_len (D := D) 60 (S := ce_hb D S row 3) none 0
        have hokT := ce_run_okT (D := D) 60 none 0 hb
        intro v I3 J3 ⟨hv, hJ, f3, _, hT3⟩
        subst hv hJ
        refine ⟨_, rfl, ?_⟩
        generalize ce_run D 60 (ce_hb D S row 3) none 0 = R at hT3 hl hokT mo1
        have t3 : ce_t3 D S R.2 I I3 := t2.sc h8 h12 (fun a k hk => f3 a k (by unfold ce_sc2 ce_scr at hk; unfold ce_x195; omega)) (fun a k ha => f3 a k (by unfold ce_x195; omega)) hT3
        have b3 : I3 100 48 = nI (ce_mo D S h p q row).2 := by rw [f3 _ _ (by unfold ce_x195; omega)]; exact b2
        refine cw_m (fun _ => cd_s221_36) ?_
        refine cw_ci (cw_mono (cp_205 hK.1 hokT.1 (t3.R hM.1) hT3 hh) ?_)
        intro v I4 J4 ⟨hv, hJ, f4, hr⟩
        subst hv hJ
        refine ⟨_, rfl, ?_⟩
        have t4 : ce_t3 D S R.2 I I4 := t3.sc h8 h12 (fun a k hk => f4 a k (by unfold ce_sc2 ce_scr at hk; omega)) (fun a k ha => f4 a k (by omega)) (hT3.of (fun a k h => f4 a k (by omega)))
        have b4 : I4 100 48 = nI (ce_mo D S h p q row).2 := by rw [f4 _ _ (by omega)]; exact b3
        have c5 := cp_211 (L := L) (w := w) (J := J4) hr (o := ce_gt (ce_rm D R.2 h)) (fun f hf => (ce_gt_b hf).1)
        rw [show ce_szo (ce_rm D R.2 h) (ce_gt (ce_rm D R.2 h)) = ce_gs (ce_rm D R.2 h) from rfl] at c5
        have hgs := @ce_gs_b (ce_rm D R.2 h)
        refine cw_m (fun _ => cd_s221_41) ?_
        simp (disch := omega) only [cw_l0, cw_l1, cw_l2, cw_l3, cw_l4, cw_l5, cw_l6, cw_l7, cw_l8, cw_l9, cw_l10, cw_l11, cw_l12, cw_l13, cw_l14, cw_l15, cw_l16, cw_l17, cw_l18, cw_l19, cw_l20, cw_l27, cw_l28, cw_l31, cw_l32, cw_l40, cw_l52, cw_l60, cw_l61, cw_l63, cw_l64, cw_l80, cw_l97, cw_l99, cw_l100, cw_l255, cw_l500, cw_l999, cw_l65536, cd_inN, nI_clamp, nI_add, pk_mul, cw_subc, cw_zz, pk_div, cw_ltN, cw_eqN, cw_tf0, cw_tf1, cw_tfa, cw_bi, cw_bl, cw_bv, if_true, if_false, Bool.false_eq_true, Bool.true_eq_false, ite_self, cw_neg1, cw_m1a, cw_ztl, cw_zeq, cw_zadd, cw_znadd, cw_nzadd, cw_zsub, cw_zmul, cw_znmul, cw_nzmul, cw_ltNZ, cw_eqZN, cw_eqNZ, cw_ltZN, cw_on, cw_os, cw_c0, cw_c1, cw_c2, cw_c3, cw_c4, cw_c5, cw_c8, cw_c10, cw_c40, cw_c80, cw_c100, cp_144z, cp_140n, cw_mabs, cw_mod8, decide_eq_true_eq, not_false_eq_true, not_true_eq_false, true_and, and_true, false_and, and_false, decide_eq_false_iff_not, Nat.not_lt, Nat.not_le, c5]
        refine cw_m (fun _ => cd_s221_42) ?_
        by_cases hlt : (ce_mo D S h p q row).1 < (ce_gs (ce_rm D R.2 h) : Int)
        · rw [if_pos hlt] at mo1
          have := fin (cd_up I4 100 48 (nI row)) (.int (nI R.1.length)) (.int (nI (ce_gs (ce_rm D R.2 h)))) _ mo1.symm ⟨R.2, t4.sc h8 h12 (fun a k hk => cd_up_k2 (by unfold ce_sc2 ce_scr at hk; omega)) (fun a k ha => cd_up_a (by omega)) (t4.2.1.of (fun a k h => cd_up_a (by omega)))⟩ cd_up_s
          rw [zI_n] at this
          simp (disch := omega) only [cw_l0, cw_l1, cw_l2, cw_l3, cw_l4, cw_l5, cw_l6, cw_l7, cw_l8, cw_l9, cw_l10, cw_l11, cw_l12, cw_l13, cw_l14, cw_l15, cw_l16, cw_l17, cw_l18, cw_l19, cw_l20, cw_l27, cw_l28, cw_l31, cw_l32, cw_l40, cw_l52, cw_l60, cw_l61, cw_l63, cw_l64, cw_l80, cw_l97, cw_l99, cw_l100, cw_l255, cw_l500, cw_l999, cw_l65536, cd_inN, nI_clamp, nI_add, pk_mul, cw_subc, cw_zz, pk_div, cw_ltN, cw_eqN, cw_tf0, cw_tf1, cw_tfa, cw_bi, cw_bl, cw_bv, if_true, if_false, Bool.false_eq_true, Bool.true_eq_false, ite_self, cw_neg1, cw_m1a, cw_ztl, cw_zeq, cw_zadd, cw_znadd, cw_nzadd, cw_zsub, cw_zmul, cw_znmul, cw_nzmul, cw_ltNZ, cw_eqZN, cw_eqNZ, cw_ltZN, cw_on, cw_os, cw_c0, cw_c1, cw_c2, cw_c3, cw_c4, cw_c5, cw_c8, cw_c10, cw_c40, cw_c80, cw_c100, cp_144z, cp_140n, cw_mabs, cw_mod8, decide_eq_true_eq, not_false_eq_true, not_true_eq_false, true_and, and_true, false_and, and_false, decide_eq_false_iff_not, Nat.not_lt, Nat.not_le, if_pos, if_neg, b4]
          exact this
        · rw [if_neg hlt] at mo1
          have := fin (cd_up I4 100 48 (nI (ce_mo D S h p q row).2)) (.int (nI R.1.length)) (.int (nI (ce_gs (ce_rm D R.2 h)))) _ mo1.symm ⟨R.2, t4.sc h8 h12 (fun a k hk => cd_up_k2 (by unfold ce_sc2 ce_scr at hk; omega)) (fun a k ha => cd_up_a (by omega)) (t4.2.1.of (fun a k h => cd_up_a (by omega)))⟩ cd_up_s
          simp (disch := omega) only [cw_l0, cw_l1, cw_l2, cw_l3, cw_l4, cw_l5, cw_l6, cw_l7, cw_l8, cw_l9, cw_l10, cw_l11, cw_l12, cw_l13, cw_l14, cw_l15, cw_l16, cw_l17, cw_l18, cw_l19, cw_l20, cw_l27, cw_l28, cw_l31, cw_l32, cw_l40, cw_l52, cw_l60, cw_l61, cw_l63, cw_l64, cw_l80, cw_l97, cw_l99, cw_l100, cw_l255, cw_l500, cw_l999, cw_l65536, cd_inN, nI_clamp, nI_add, pk_mul, cw_subc, cw_zz, pk_div, cw_ltN, cw_eqN, cw_tf0, cw_tf1, cw_tfa, cw_bi, cw_bl, cw_bv, if_true, if_false, Bool.false_eq_true, Bool.true_eq_false, ite_self, cw_neg1, cw_m1a, cw_ztl, cw_zeq, cw_zadd, cw_znadd, cw_nzadd, cw_zsub, cw_zmul, cw_znmul, cw_nzmul, cw_ltNZ, cw_eqZN, cw_eqNZ, cw_ltZN, cw_on, cw_os, cw_c0, cw_c1, cw_c2, cw_c3, cw_c4, cw_c5, cw_c8, cw_c10, cw_c40, cw_c80, cw_c100, cp_144z, cp_140n, cw_mabs, cw_mod8, decide_eq_true_eq, not_false_eq_true, not_true_eq_false, true_and, and_true, false_and, and_false, decide_eq_false_iff_not, Nat.not_lt, Nat.not_le, if_pos, if_neg, b4]
          exact this
      · simp (disch := omega) only [cw_l0, cw_l1, cw_l2, cw_l3, cw_l4, cw_l5, cw_l6, cw_l7, cw_l8, cw_l9, cw_l10, cw_l11, cw_l12, cw_l13, cw_l14, cw_l15, cw_l16, cw_l17, cw_l18, cw_l19, cw_l20, cw_l27, cw_l28, cw_l31, cw_l32, cw_l40, cw_l52, cw_l60, cw_l61, cw_l63, cw_l64, cw_l80, cw_l97, cw_l99, cw_l100, cw_l255, cw_l500, cw_l999, cw_l65536, cd_inN, nI_clamp, nI_add, pk_mul, cw_subc, cw_zz, pk_div, cw_ltN, cw_eqN, cw_tf0, cw_tf1, cw_tfa, cw_bi, cw_bl, cw_bv, if_true, if_false, Bool.false_eq_true, Bool.true_eq_false, ite_self, cw_neg1, cw_m1a, cw_ztl, cw_zeq, cw_zadd, cw_znadd, cw_nzadd, cw_zsub, cw_zmul, cw_znmul, cw_nzmul, cw_ltNZ, cw_eqZN, cw_eqNZ, cw_ltZN, cw_on, cw_os, cw_c0, cw_c1, cw_c2, cw_c3, cw_c4, cw_c5, cw_c8, cw_c10, cw_c40, cw_c80, cw_c100, cp_144z, cp_140n, cw_mabs, cw_mod8, decide_eq_true_eq, not_false_eq_true, not_true_eq_false, true_and, and_true, false_and, and_false, decide_eq_false_iff_not, Nat.not_lt, Nat.not_le, if_pos, if_neg]
        exact fin I2 _ _ _ (no (by unfold ce_fits; rw [decide_eq_false q2, Bool.and_false])) ⟨_, t2⟩ b2
    · simp (disch := omega) only [cw_l0, cw_l1, cw_l2, cw_l3, cw_l4, cw_l5, cw_l6, cw_l7, cw_l8, cw_l9, cw_l10, cw_l11, cw_l12, cw_l13, cw_l14, cw_l15, cw_l16, cw_l17, cw_l18, cw_l19, cw_l20, cw_l27, cw_l28, cw_l31, cw_l32, cw_l40, cw_l52, cw_l60, cw_l61, cw_l63, cw_l64, cw_l80, cw_l97, cw_l99, cw_l100, cw_l255, cw_l500, cw_l999, cw_l65536, cd_inN, nI_clamp, nI_add, pk_mul, cw_subc, cw_zz, pk_div, cw_ltN, cw_eqN, cw_tf0, cw_tf1, cw_tfa, cw_bi, cw_bl, cw_bv, if_true, if_false, Bool.false_eq_true, Bool.true_eq_false, ite_self, cw_neg1, cw_m1a, cw_ztl, cw_zeq, cw_zadd, cw_znadd, cw_nzadd, cw_zsub, cw_zmul, cw_znmul, cw_nzmul, cw_ltNZ, cw_eqZN, cw_eqNZ, cw_ltZN, cw_on, cw_os, cw_c0, cw_c1, cw_c2, cw_c3, cw_c4, cw_c5, cw_c8, cw_c10, cw_c40, cw_c80, cw_c100, cp_144z, cp_140n, cw_mabs, cw_mod8, decide_eq_true_eq, not_false_eq_true, not_true_eq_false, true_and, and_true, false_and, and_false, decide_eq_false_iff_not, Nat.not_lt, Nat.not_le, if_pos, if_neg]
      exact fin I2 _ _ _ (no (by unfold ce_fits; rw [decide_eq_false q1]; rfl)) ⟨_, t2⟩ b2
/-- most -/
noncomputable def ce_mA (D : cd_D) (S : cd_S) (h p q : Nat) (k : Option Nat) : Int32 := match k with
  | none => zI (ce_mo D S h p q (3 ^ D 0 2)).1
  | some k => nI ((ce_mo D S h p q (3 ^ D 0 2)).2 / 3 ^ (D 0 2 - 1 - k) % 3)
theorem cp_222u (hK : ce_ok D S Y) (hM : ce_M D S Y I) {x y z u : Int32} (h1 : ¬ u = -1) (h2 : ce_ix u (D 0 2) = false) : cw L w (cd_c 222 [.ref 100, .int x, .int y, .int z, .int u] (cd_mm L w I J)) (ce_post (.int (-1001)) D S Y I J) := by
  refine cw_c (l := [_, _, _, _, _, _]) rfl rfl ?_
  refine cw_m (fun _ => cd_s222_0) ?_
  rw [if_neg h1]
  simp (disch := omega) only [cw_l0, cw_l1, cw_l2, cw_l3, cw_l4, cw_l5, cw_l6, cw_l7, cw_l8, cw_l9, cw_l10, cw_l11, cw_l12, cw_l13, cw_l14, cw_l15, cw_l16, cw_l17, cw_l18, cw_l19, cw_l20, cw_l27, cw_l28, cw_l31, cw_l32, cw_l40, cw_l52, cw_l60, cw_l61, cw_l63, cw_l64, cw_l80, cw_l97, cw_l99, cw_l100, cw_l255, cw_l500, cw_l999, cw_l65536, cd_inN, nI_clamp, nI_add, pk_mul, cw_subc, cw_zz, pk_div, cw_ltN, cw_eqN, cw_tf0, cw_tf1, cw_tfa, cw_bi, cw_bl, cw_bv, if_true, if_false, Bool.false_eq_true, Bool.true_eq_false, ite_self, cw_neg1, cw_m1a, cw_ztl, cw_zeq, cw_zadd, cw_znadd, cw_nzadd, cw_zsub, cw_zmul, cw_znmul, cw_nzmul, cw_ltNZ, cw_eqZN, cw_eqNZ, cw_ltZN, cw_on, cw_os, cw_c0, cw_c1, cw_c2, cw_c3, cw_c4, cw_c5, cw_c8, cw_c10, cw_c40, cw_c80, cw_c100, cp_144z, cp_140n, cw_mabs, cw_mod8, decide_eq_true_eq, not_false_eq_true, not_true_eq_false, true_and, and_true, false_and, and_false, decide_eq_false_iff_not, Nat.not_lt, Nat.not_le, cp_142 hM.1 hK.1, h2]
  refine cw_m (fun _ => cd_s222_6) ?_
  simp (disch := omega) only [cw_l0, cw_l1, cw_l2, cw_l3, cw_l4, cw_l5, cw_l6, cw_l7, cw_l8, cw_l9, cw_l10, cw_l11, cw_l12, cw_l13, cw_l14, cw_l15, cw_l16, cw_l17, cw_l18, cw_l19, cw_l20, cw_l27, cw_l28, cw_l31, cw_l32, cw_l40, cw_l52, cw_l60, cw_l61, cw_l63, cw_l64, cw_l80, cw_l97, cw_l99, cw_l100, cw_l255, cw_l500, cw_l999, cw_l65536, cd_inN, nI_clamp, nI_add, pk_mul, cw_subc, cw_zz, pk_div, cw_ltN, cw_eqN, cw_tf0, cw_tf1, cw_tfa, cw_bi, cw_bl, cw_bv, if_true, if_false, Bool.false_eq_true, Bool.true_eq_false, ite_self, cw_neg1, cw_m1a, cw_ztl, cw_zeq, cw_zadd, cw_znadd, cw_nzadd, cw_zsub, cw_zmul, cw_znmul, cw_nzmul, cw_ltNZ, cw_eqZN, cw_eqNZ, cw_ltZN, cw_on, cw_os, cw_c0, cw_c1, cw_c2, cw_c3, cw_c4, cw_c5, cw_c8, cw_c10, cw_c40, cw_c80, cw_c100, cp_144z, cp_140n, cw_mabs, cw_mod8, decide_eq_true_eq, not_false_eq_true, not_true_eq_false, true_and, and_true, false_and, and_false, decide_eq_false_iff_not, Nat.not_lt, Nat.not_le]
  exact cw_ret ⟨rfl, hM, ce_fC.rf⟩
theorem cp_222s (hK : ce_ok D S Y) (hM : ce_M D S Y I) {x y z u : Int32} {Q : Option Value → (Nat → Nat → Int32) → (Nat → Nat → Int64) → Prop} (h1 : u = -1 ∨ ce_ix u (D 0 2) = true) (h : cw L w (cd_go 222 9 [.ref 100, .int x, .int y, .int z, .int u, .null] [] (cd_mm L w I J)) Q) : cw L w (cd_c 222 [.ref 100, .int x, .int y, .int z, .int u] (cd_mm L w I J)) Q := by
  refine cw_c (l := [_, _, _, _, _, _]) rfl rfl ?_
  refine cw_m (fun _ => cd_s222_0) ?_
  by_cases hu : u = -1
  · rw [if_pos hu]; exact h
  · have h2 := h1.resolve_left hu
    rw [if_neg hu]
    simp (disch := omega) only [cw_l0, cw_l1, cw_l2, cw_l3, cw_l4, cw_l5, cw_l6, cw_l7, cw_l8, cw_l9, cw_l10, cw_l11, cw_l12, cw_l13, cw_l14, cw_l15, cw_l16, cw_l17, cw_l18, cw_l19, cw_l20, cw_l27, cw_l28, cw_l31, cw_l32, cw_l40, cw_l52, cw_l60, cw_l61, cw_l63, cw_l64, cw_l80, cw_l97, cw_l99, cw_l100, cw_l255, cw_l500, cw_l999, cw_l65536, cd_inN, nI_clamp, nI_add, pk_mul, cw_subc, cw_zz, pk_div, cw_ltN, cw_eqN, cw_tf0, cw_tf1, cw_tfa, cw_bi, cw_bl, cw_bv, if_true, if_false, Bool.false_eq_true, Bool.true_eq_false, ite_self, cw_neg1, cw_m1a, cw_ztl, cw_zeq, cw_zadd, cw_znadd, cw_nzadd, cw_zsub, cw_zmul, cw_znmul, cw_nzmul, cw_ltNZ, cw_eqZN, cw_eqNZ, cw_ltZN, cw_on, cw_os, cw_c0, cw_c1, cw_c2, cw_c3, cw_c4, cw_c5, cw_c8, cw_c10, cw_c40, cw_c80, cw_c100, cp_144z, cp_140n, cw_mabs, cw_mod8, decide_eq_true_eq, not_false_eq_true, not_true_eq_false, true_and, and_true, false_and, and_false, decide_eq_false_iff_not, Nat.not_lt, Nat.not_le, cp_142 hM.1 hK.1, h2]
    refine cw_m (fun _ => cd_s222_6) ?_
    simp (disch := omega) only [cw_l0, cw_l1, cw_l2, cw_l3, cw_l4, cw_l5, cw_l6, cw_l7, cw_l8, cw_l9, cw_l10, cw_l11, cw_l12, cw_l13, cw_l14, cw_l15, cw_l16, cw_l17, cw_l18, cw_l19, cw_l20, cw_l27, cw_l28, cw_l31, cw_l32, cw_l40, cw_l52, cw_l60, cw_l61, cw_l63, cw_l64, cw_l80, cw_l97, cw_l99, cw_l100, cw_l255, cw_l500, cw_l999, cw_l65536, cd_inN, nI_clamp, nI_add, pk_mul, cw_subc, cw_zz, pk_div, cw_ltN, cw_eqN, cw_tf0, cw_tf1, cw_tfa, cw_bi, cw_bl, cw_bv, if_true, if_false, Bool.false_eq_true, Bool.true_eq_false, ite_self, cw_neg1, cw_m1a, cw_ztl, cw_zeq, cw_zadd, cw_znadd, cw_nzadd, cw_zsub, cw_zmul, cw_znmul, cw_nzmul, cw_ltNZ, cw_eqZN, cw_eqNZ, cw_ltZN, cw_on, cw_os, cw_c0, cw_c1, cw_c2, cw_c3, cw_c4, cw_c5, cw_c8, cw_c10, cw_c40, cw_c80, cw_c100, cp_144z, cp_140n, cw_mabs, cw_mod8, decide_eq_true_eq, not_false_eq_true, not_true_eq_false, true_and, and_true, false_and, and_false, decide_eq_false_iff_not, Nat.not_lt, Nat.not_le]
    exact h
theorem cp_222o (hK : ce_ok D S Y) (hM : ce_M D S Y I) {x y z u : Int32} (h1 : u = -1 ∨ ce_ix u (D 0 2) = true) (hx : ce_ih x = false ∨ ce_ix y 13 = false ∨ ce_ix z 13 = false) : cw L w (cd_c 222 [.ref 100, .int x, .int y, .int z, .int u] (cd_mm L w I J)) (ce_post (.int (-1002)) D S Y I J) := by
  have e1 := ce_ixl (x := y) (n := 13) (h := 12) rfl (by decide)
  have e2 := ce_ixl (x := z) (n := 13) (h := 12) rfl (by decide)
  refine cp_222s hK hM h1 ?_
  refine cw_m (fun _ => cd_s222_9) ?_
  simp (disch := omega) only [cw_l0, cw_l1, cw_l2, cw_l3, cw_l4, cw_l5, cw_l6, cw_l7, cw_l8, cw_l9, cw_l10, cw_l11, cw_l12, cw_l13, cw_l14, cw_l15, cw_l16, cw_l17, cw_l18, cw_l19, cw_l20, cw_l27, cw_l28, cw_l31, cw_l32, cw_l40, cw_l52, cw_l60, cw_l61, cw_l63, cw_l64, cw_l80, cw_l97, cw_l99, cw_l100, cw_l255, cw_l500, cw_l999, cw_l65536, cd_inN, nI_clamp, nI_add, pk_mul, cw_subc, cw_zz, pk_div, cw_ltN, cw_eqN, cw_tf0, cw_tf1, cw_tfa, cw_bi, cw_bl, cw_bv, if_true, if_false, Bool.false_eq_true, Bool.true_eq_false, ite_self, cw_neg1, cw_m1a, cw_ztl, cw_zeq, cw_zadd, cw_znadd, cw_nzadd, cw_zsub, cw_zmul, cw_znmul, cw_nzmul, cw_ltNZ, cw_eqZN, cw_eqNZ, cw_ltZN, cw_on, cw_os, cw_c0, cw_c1, cw_c2, cw_c3, cw_c4, cw_c5, cw_c8, cw_c10, cw_c40, cw_c80, cw_c100, cp_144z, cp_140n, cw_mabs, cw_mod8, decide_eq_true_eq, not_false_eq_true, not_true_eq_false, true_and, and_true, false_and, and_false, decide_eq_false_iff_not, Nat.not_lt, Nat.not_le, cp_210]
  refine cw_m (fun _ => cd_s222_11) ?_
  cases q1 : ce_ih x with
  | false =>
    simp (disch := omega) only [cw_l0, cw_l1, cw_l2, cw_l3, cw_l4, cw_l5, cw_l6, cw_l7, cw_l8, cw_l9, cw_l10, cw_l11, cw_l12, cw_l13, cw_l14, cw_l15, cw_l16, cw_l17, cw_l18, cw_l19, cw_l20, cw_l27, cw_l28, cw_l31, cw_l32, cw_l40, cw_l52, cw_l60, cw_l61, cw_l63, cw_l64, cw_l80, cw_l97, cw_l99, cw_l100, cw_l255, cw_l500, cw_l999, cw_l65536, cd_inN, nI_clamp, nI_add, pk_mul, cw_subc, cw_zz, pk_div, cw_ltN, cw_eqN, cw_tf0, cw_tf1, cw_tfa, cw_bi, cw_bl, cw_bv, if_true, if_false, Bool.false_eq_true, Bool.true_eq_false, ite_self, cw_neg1, cw_m1a, cw_ztl, cw_zeq, cw_zadd, cw_znadd, cw_nzadd, cw_zsub, cw_zmul, cw_znmul, cw_nzmul, cw_ltNZ, cw_eqZN, cw_eqNZ, cw_ltZN, cw_on, cw_os, cw_c0, cw_c1, cw_c2, cw_c3, cw_c4, cw_c5, cw_c8, cw_c10, cw_c40, cw_c80, cw_c100, cp_144z, cp_140n, cw_mabs, cw_mod8, decide_eq_true_eq, not_false_eq_true, not_true_eq_false, true_and, and_true, false_and, and_false, decide_eq_false_iff_not, Nat.not_lt, Nat.not_le]
    exact cw_ret ⟨rfl, hM, ce_fC.rf⟩
  | true =>
    simp (disch := omega) only [cw_l0, cw_l1, cw_l2, cw_l3, cw_l4, cw_l5, cw_l6, cw_l7, cw_l8, cw_l9, cw_l10, cw_l11, cw_l12, cw_l13, cw_l14, cw_l15, cw_l16, cw_l17, cw_l18, cw_l19, cw_l20, cw_l27, cw_l28, cw_l31, cw_l32, cw_l40, cw_l52, cw_l60, cw_l61, cw_l63, cw_l64, cw_l80, cw_l97, cw_l99, cw_l100, cw_l255, cw_l500, cw_l999, cw_l65536, cd_inN, nI_clamp, nI_add, pk_mul, cw_subc, cw_zz, pk_div, cw_ltN, cw_eqN, cw_tf0, cw_tf1, cw_tfa, cw_bi, cw_bl, cw_bv, if_true, if_false, Bool.false_eq_true, Bool.true_eq_false, ite_self, cw_neg1, cw_m1a, cw_ztl, cw_zeq, cw_zadd, cw_znadd, cw_nzadd, cw_zsub, cw_zmul, cw_znmul, cw_nzmul, cw_ltNZ, cw_eqZN, cw_eqNZ, cw_ltZN, cw_on, cw_os, cw_c0, cw_c1, cw_c2, cw_c3, cw_c4, cw_c5, cw_c8, cw_c10, cw_c40, cw_c80, cw_c100, cp_144z, cp_140n, cw_mabs, cw_mod8, decide_eq_true_eq, not_false_eq_true, not_true_eq_false, true_and, and_true, false_and, and_false, decide_eq_false_iff_not, Nat.not_lt, Nat.not_le, cp_138, e1]
    refine cw_m (fun _ => cd_s222_17) ?_
    cases q2 : ce_ix y 13 with
    | false =>
      simp (disch := omega) only [cw_l0, cw_l1, cw_l2, cw_l3, cw_l4, cw_l5, cw_l6, cw_l7, cw_l8, cw_l9, cw_l10, cw_l11, cw_l12, cw_l13, cw_l14, cw_l15, cw_l16, cw_l17, cw_l18, cw_l19, cw_l20, cw_l27, cw_l28, cw_l31, cw_l32, cw_l40, cw_l52, cw_l60, cw_l61, cw_l63, cw_l64, cw_l80, cw_l97, cw_l99, cw_l100, cw_l255, cw_l500, cw_l999, cw_l65536, cd_inN, nI_clamp, nI_add, pk_mul, cw_subc, cw_zz, pk_div, cw_ltN, cw_eqN, cw_tf0, cw_tf1, cw_tfa, cw_bi, cw_bl, cw_bv, if_true, if_false, Bool.false_eq_true, Bool.true_eq_false, ite_self, cw_neg1, cw_m1a, cw_ztl, cw_zeq, cw_zadd, cw_znadd, cw_nzadd, cw_zsub, cw_zmul, cw_znmul, cw_nzmul, cw_ltNZ, cw_eqZN, cw_eqNZ, cw_ltZN, cw_on, cw_os, cw_c0, cw_c1, cw_c2, cw_c3, cw_c4, cw_c5, cw_c8, cw_c10, cw_c40, cw_c80, cw_c100, cp_144z, cp_140n, cw_mabs, cw_mod8, decide_eq_true_eq, not_false_eq_true, not_true_eq_false, true_and, and_true, false_and, and_false, decide_eq_false_iff_not, Nat.not_lt, Nat.not_le]
      exact cw_ret ⟨rfl, hM, ce_fC.rf⟩
    | true =>
      have q3 : ce_ix z 13 = false := by
        rcases hx with h | h | h
        · rw [q1] at h; cases h
        · rw [q2] at h; cases h
        · exact h
      simp (disch := omega) only [cw_l0, cw_l1, cw_l2, cw_l3, cw_l4, cw_l5, cw_l6, cw_l7, cw_l8, cw_l9, cw_l10, cw_l11, cw_l12, cw_l13, cw_l14, cw_l15, cw_l16, cw_l17, cw_l18, cw_l19, cw_l20, cw_l27, cw_l28, cw_l31, cw_l32, cw_l40, cw_l52, cw_l60, cw_l61, cw_l63, cw_l64, cw_l80, cw_l97, cw_l99, cw_l100, cw_l255, cw_l500, cw_l999, cw_l65536, cd_inN, nI_clamp, nI_add, pk_mul, cw_subc, cw_zz, pk_div, cw_ltN, cw_eqN, cw_tf0, cw_tf1, cw_tfa, cw_bi, cw_bl, cw_bv, if_true, if_false, Bool.false_eq_true, Bool.true_eq_false, ite_self, cw_neg1, cw_m1a, cw_ztl, cw_zeq, cw_zadd, cw_znadd, cw_nzadd, cw_zsub, cw_zmul, cw_znmul, cw_nzmul, cw_ltNZ, cw_eqZN, cw_eqNZ, cw_ltZN, cw_on, cw_os, cw_c0, cw_c1, cw_c2, cw_c3, cw_c4, cw_c5, cw_c8, cw_c10, cw_c40, cw_c80, cw_c100, cp_144z, cp_140n, cw_mabs, cw_mod8, decide_eq_true_eq, not_false_eq_true, not_true_eq_false, true_and, and_true, false_and, and_false, decide_eq_false_iff_not, Nat.not_lt, Nat.not_le, cp_138, e2, q3]
      refine cw_m (fun _ => cd_s222_23) ?_
      simp (disch := omega) only [cw_l0, cw_l1, cw_l2, cw_l3, cw_l4, cw_l5, cw_l6, cw_l7, cw_l8, cw_l9, cw_l10, cw_l11, cw_l12, cw_l13, cw_l14, cw_l15, cw_l16, cw_l17, cw_l18, cw_l19, cw_l20, cw_l27, cw_l28, cw_l31, cw_l32, cw_l40, cw_l52, cw_l60, cw_l61, cw_l63, cw_l64, cw_l80, cw_l97, cw_l99, cw_l100, cw_l255, cw_l500, cw_l999, cw_l65536, cd_inN, nI_clamp, nI_add, pk_mul, cw_subc, cw_zz, pk_div, cw_ltN, cw_eqN, cw_tf0, cw_tf1, cw_tfa, cw_bi, cw_bl, cw_bv, if_true, if_false, Bool.false_eq_true, Bool.true_eq_false, ite_self, cw_neg1, cw_m1a, cw_ztl, cw_zeq, cw_zadd, cw_znadd, cw_nzadd, cw_zsub, cw_zmul, cw_znmul, cw_nzmul, cw_ltNZ, cw_eqZN, cw_eqNZ, cw_ltZN, cw_on, cw_os, cw_c0, cw_c1, cw_c2, cw_c3, cw_c4, cw_c5, cw_c8, cw_c10, cw_c40, cw_c80, cw_c100, cp_144z, cp_140n, cw_mabs, cw_mod8, decide_eq_true_eq, not_false_eq_true, not_true_eq_false, true_and, and_true, false_and, and_false, decide_eq_false_iff_not, Nat.not_lt, Nat.not_le]
      exact cw_ret ⟨rfl, hM, ce_fC.rf⟩
theorem cp_222m (hK : ce_ok D S Y) (hM : ce_M D S Y I) {x y z u : Int32} (h1 : u = -1 ∨ ce_ix u (D 0 2) = true) (hx : ce_ih x = true) (hy : ce_ix y 13 = true) (hz : ce_ix z 13 = true) (h7 : 7 < D 0 2) : cw L w (cd_c 222 [.ref 100, .int x, .int y, .int z, .int u] (cd_mm L w I J)) (ce_post (.int (-1003)) D S Y I J) := by
  have e1 := ce_ixl (x := y) (n := 13) (h := 12) rfl (by decide)
  have e2 := ce_ixl (x := z) (n := 13) (h := 12) rfl (by decide)
  have h12 := hK.1.1.2.2.1
  refine cp_222s hK hM h1 ?_
  refine cw_m (fun _ => cd_s222_9) ?_
  simp (disch := omega) only [cw_l0, cw_l1, cw_l2, cw_l3, cw_l4, cw_l5, cw_l6, cw_l7, cw_l8, cw_l9, cw_l10, cw_l11, cw_l12, cw_l13, cw_l14, cw_l15, cw_l16, cw_l17, cw_l18, cw_l19, cw_l20, cw_l27, cw_l28, cw_l31, cw_l32, cw_l40, cw_l52, cw_l60, cw_l61, cw_l63, cw_l64, cw_l80, cw_l97, cw_l99, cw_l100, cw_l255, cw_l500, cw_l999, cw_l65536, cd_inN, nI_clamp, nI_add, pk_mul, cw_subc, cw_zz, pk_div, cw_ltN, cw_eqN, cw_tf0, cw_tf1, cw_tfa, cw_bi, cw_bl, cw_bv, if_true, if_false, Bool.false_eq_true, Bool.true_eq_false, ite_self, cw_neg1, cw_m1a, cw_ztl, cw_zeq, cw_zadd, cw_znadd, cw_nzadd, cw_zsub, cw_zmul, cw_znmul, cw_nzmul, cw_ltNZ, cw_eqZN, cw_eqNZ, cw_ltZN, cw_on, cw_os, cw_c0, cw_c1, cw_c2, cw_c3, cw_c4, cw_c5, cw_c8, cw_c10, cw_c40, cw_c80, cw_c100, cp_144z, cp_140n, cw_mabs, cw_mod8, decide_eq_true_eq, not_false_eq_true, not_true_eq_false, true_and, and_true, false_and, and_false, decide_eq_false_iff_not, Nat.not_lt, Nat.not_le, cp_210, hx]
  refine cw_m (fun _ => cd_s222_11) ?_
  simp (disch := omega) only [cw_l0, cw_l1, cw_l2, cw_l3, cw_l4, cw_l5, cw_l6, cw_l7, cw_l8, cw_l9, cw_l10, cw_l11, cw_l12, cw_l13, cw_l14, cw_l15, cw_l16, cw_l17, cw_l18, cw_l19, cw_l20, cw_l27, cw_l28, cw_l31, cw_l32, cw_l40, cw_l52, cw_l60, cw_l61, cw_l63, cw_l64, cw_l80, cw_l97, cw_l99, cw_l100, cw_l255, cw_l500, cw_l999, cw_l65536, cd_inN, nI_clamp, nI_add, pk_mul, cw_subc, cw_zz, pk_div, cw_ltN, cw_eqN, cw_tf0, cw_tf1, cw_tfa, cw_bi, cw_bl, cw_bv, if_true, if_false, Bool.false_eq_true, Bool.true_eq_false, ite_self, cw_neg1, cw_m1a, cw_ztl, cw_zeq, cw_zadd, cw_znadd, cw_nzadd, cw_zsub, cw_zmul, cw_znmul, cw_nzmul, cw_ltNZ, cw_eqZN, cw_eqNZ, cw_ltZN, cw_on, cw_os, cw_c0, cw_c1, cw_c2, cw_c3, cw_c4, cw_c5, cw_c8, cw_c10, cw_c40, cw_c80, cw_c100, cp_144z, cp_140n, cw_mabs, cw_mod8, decide_eq_true_eq, not_false_eq_true, not_true_eq_false, true_and, and_true, false_and, and_false, decide_eq_false_iff_not, Nat.not_lt, Nat.not_le, cp_138, e1, hy]
  refine cw_m (fun _ => cd_s222_17) ?_
  simp (disch := omega) only [cw_l0, cw_l1, cw_l2, cw_l3, cw_l4, cw_l5, cw_l6, cw_l7, cw_l8, cw_l9, cw_l10, cw_l11, cw_l12, cw_l13, cw_l14, cw_l15, cw_l16, cw_l17, cw_l18, cw_l19, cw_l20, cw_l27, cw_l28, cw_l31, cw_l32, cw_l40, cw_l52, cw_l60, cw_l61, cw_l63, cw_l64, cw_l80, cw_l97, cw_l99, cw_l100, cw_l255, cw_l500, cw_l999, cw_l65536, cd_inN, nI_clamp, nI_add, pk_mul, cw_subc, cw_zz, pk_div, cw_ltN, cw_eqN, cw_tf0, cw_tf1, cw_tfa, cw_bi, cw_bl, cw_bv, if_true, if_false, Bool.false_eq_true, Bool.true_eq_false, ite_self, cw_neg1, cw_m1a, cw_ztl, cw_zeq, cw_zadd, cw_znadd, cw_nzadd, cw_zsub, cw_zmul, cw_znmul, cw_nzmul, cw_ltNZ, cw_eqZN, cw_eqNZ, cw_ltZN, cw_on, cw_os, cw_c0, cw_c1, cw_c2, cw_c3, cw_c4, cw_c5, cw_c8, cw_c10, cw_c40, cw_c80, cw_c100, cp_144z, cp_140n, cw_mabs, cw_mod8, decide_eq_true_eq, not_false_eq_true, not_true_eq_false, true_and, and_true, false_and, and_false, decide_eq_false_iff_not, Nat.not_lt, Nat.not_le, cp_138, e2, hz]
  refine cw_m (fun _ => cd_s222_23) ?_
  simp (disch := omega) only [cw_l0, cw_l1, cw_l2, cw_l3, cw_l4, cw_l5, cw_l6, cw_l7, cw_l8, cw_l9, cw_l10, cw_l11, cw_l12, cw_l13, cw_l14, cw_l15, cw_l16, cw_l17, cw_l18, cw_l19, cw_l20, cw_l27, cw_l28, cw_l31, cw_l32, cw_l40, cw_l52, cw_l60, cw_l61, cw_l63, cw_l64, cw_l80, cw_l97, cw_l99, cw_l100, cw_l255, cw_l500, cw_l999, cw_l65536, cd_inN, nI_clamp, nI_add, pk_mul, cw_subc, cw_zz, pk_div, cw_ltN, cw_eqN, cw_tf0, cw_tf1, cw_tfa, cw_bi, cw_bl, cw_bv, if_true, if_false, Bool.false_eq_true, Bool.true_eq_false, ite_self, cw_neg1, cw_m1a, cw_ztl, cw_zeq, cw_zadd, cw_znadd, cw_nzadd, cw_zsub, cw_zmul, cw_znmul, cw_nzmul, cw_ltNZ, cw_eqZN, cw_eqNZ, cw_ltZN, cw_on, cw_os, cw_c0, cw_c1, cw_c2, cw_c3, cw_c4, cw_c5, cw_c8, cw_c10, cw_c40, cw_c80, cw_c100, cp_144z, cp_140n, cw_mabs, cw_mod8, decide_eq_true_eq, not_false_eq_true, not_true_eq_false, true_and, and_true, false_and, and_false, decide_eq_false_iff_not, Nat.not_lt, Nat.not_le, if_pos, if_neg, hM.1.1.2.2.1]
  exact cw_ret ⟨rfl, hM, ce_fC.rf⟩
theorem cp_222 (hK : ce_ok D S Y) (hM : ce_M D S Y I) {h p q : Nat} {o : Option Nat} (ho : ∀ k, o = some k → k < D 0 2) (h1 : 1 ≤ h) (h2 : h ≤ 20) (hp : p < 13) (hq : q < 13) (h7 : D 0 2 ≤ 7) : cw L w (cd_c 222 [.ref 100, .int (nI h), .int (nI p), .int (nI q), .int (cd_oi o)] (cd_mm L w I J)) (ce_post (.int (ce_mA D S h p q o)) D S Y I J) := by
  have e1 := ce_ixl (x := nI p) (n := 13) (h := 12) rfl (by decide)
  have e2 := ce_ixl (x := nI q) (n := 13) (h := 12) rfl (by decide)
  have h12 := hK.1.1.2.2.1
  have hx := ce_ih_n h1 h2
  have hy := ce_ix_n hp (by decide)
  have hz := ce_ix_n hq (by decide)
  refine cp_222s hK hM (by
    cases o with
    | none => exact Or.inl rfl
    | some k => exact Or.inr (ce_ix_n (ho k rfl) (by omega))) ?_
  refine cw_m (fun _ => cd_s222_9) ?_
  simp (disch := omega) only [cw_l0, cw_l1, cw_l2, cw_l3, cw_l4, cw_l5, cw_l6, cw_l7, cw_l8, cw_l9, cw_l10, cw_l11, cw_l12, cw_l13, cw_l14, cw_l15, cw_l16, cw_l17, cw_l18, cw_l19, cw_l20, cw_l27, cw_l28, cw_l31, cw_l32, cw_l40, cw_l52, cw_l60, cw_l61, cw_l63, cw_l64, cw_l80, cw_l97, cw_l99, cw_l100, cw_l255, cw_l500, cw_l999, cw_l65536, cd_inN, nI_clamp, nI_add, pk_mul, cw_subc, cw_zz, pk_div, cw_ltN, cw_eqN, cw_tf0, cw_tf1, cw_tfa, cw_bi, cw_bl, cw_bv, if_true, if_false, Bool.false_eq_true, Bool.true_eq_false, ite_self, cw_neg1, cw_m1a, cw_ztl, cw_zeq, cw_zadd, cw_znadd, cw_nzadd, cw_zsub, cw_zmul, cw_znmul, cw_nzmul, cw_ltNZ, cw_eqZN, cw_eqNZ, cw_ltZN, cw_on, cw_os, cw_c0, cw_c1, cw_c2, cw_c3, cw_c4, cw_c5, cw_c8, cw_c10, cw_c40, cw_c80, cw_c100, cp_144z, cp_140n, cw_mabs, cw_mod8, decide_eq_true_eq, not_false_eq_true, not_true_eq_false, true_and, and_true, false_and, and_false, decide_eq_false_iff_not, Nat.not_lt, Nat.not_le, cp_210, hx]
  refine cw_m (fun _ => cd_s222_11) ?_
  simp (disch := omega) only [cw_l0, cw_l1, cw_l2, cw_l3, cw_l4, cw_l5, cw_l6, cw_l7, cw_l8, cw_l9, cw_l10, cw_l11, cw_l12, cw_l13, cw_l14, cw_l15, cw_l16, cw_l17, cw_l18, cw_l19, cw_l20, cw_l27, cw_l28, cw_l31, cw_l32, cw_l40, cw_l52, cw_l60, cw_l61, cw_l63, cw_l64, cw_l80, cw_l97, cw_l99, cw_l100, cw_l255, cw_l500, cw_l999, cw_l65536, cd_inN, nI_clamp, nI_add, pk_mul, cw_subc, cw_zz, pk_div, cw_ltN, cw_eqN, cw_tf0, cw_tf1, cw_tfa, cw_bi, cw_bl, cw_bv, if_true, if_false, Bool.false_eq_true, Bool.true_eq_false, ite_self, cw_neg1, cw_m1a, cw_ztl, cw_zeq, cw_zadd, cw_znadd, cw_nzadd, cw_zsub, cw_zmul, cw_znmul, cw_nzmul, cw_ltNZ, cw_eqZN, cw_eqNZ, cw_ltZN, cw_on, cw_os, cw_c0, cw_c1, cw_c2, cw_c3, cw_c4, cw_c5, cw_c8, cw_c10, cw_c40, cw_c80, cw_c100, cp_144z, cp_140n, cw_mabs, cw_mod8, decide_eq_true_eq, not_false_eq_true, not_true_eq_false, true_and, and_true, false_and, and_false, decide_eq_false_iff_not, Nat.not_lt, Nat.not_le, cp_138, e1, hy]
  refine cw_m (fun _ => cd_s222_17) ?_
  simp (disch := omega) only [cw_l0, cw_l1, cw_l2, cw_l3, cw_l4, cw_l5, cw_l6, cw_l7, cw_l8, cw_l9, cw_l10, cw_l11, cw_l12, cw_l13, cw_l14, cw_l15, cw_l16, cw_l17, cw_l18, cw_l19, cw_l20, cw_l27, cw_l28, cw_l31, cw_l32, cw_l40, cw_l52, cw_l60, cw_l61, cw_l63, cw_l64, cw_l80, cw_l97, cw_l99, cw_l100, cw_l255, cw_l500, cw_l999, cw_l65536, cd_inN, nI_clamp, nI_add, pk_mul, cw_subc, cw_zz, pk_div, cw_ltN, cw_eqN, cw_tf0, cw_tf1, cw_tfa, cw_bi, cw_bl, cw_bv, if_true, if_false, Bool.false_eq_true, Bool.true_eq_false, ite_self, cw_neg1, cw_m1a, cw_ztl, cw_zeq, cw_zadd, cw_znadd, cw_nzadd, cw_zsub, cw_zmul, cw_znmul, cw_nzmul, cw_ltNZ, cw_eqZN, cw_eqNZ, cw_ltZN, cw_on, cw_os, cw_c0, cw_c1, cw_c2, cw_c3, cw_c4, cw_c5, cw_c8, cw_c10, cw_c40, cw_c80, cw_c100, cp_144z, cp_140n, cw_mabs, cw_mod8, decide_eq_true_eq, not_false_eq_true, not_true_eq_false, true_and, and_true, false_and, and_false, decide_eq_false_iff_not, Nat.not_lt, Nat.not_le, cp_138, e2, hz]
  refine cw_m (fun _ => cd_s222_23) ?_
  simp (disch := omega) only [cw_l0, cw_l1, cw_l2, cw_l3, cw_l4, cw_l5, cw_l6, cw_l7, cw_l8, cw_l9, cw_l10, cw_l11, cw_l12, cw_l13, cw_l14, cw_l15, cw_l16, cw_l17, cw_l18, cw_l19, cw_l20, cw_l27, cw_l28, cw_l31, cw_l32, cw_l40, cw_l52, cw_l60, cw_l61, cw_l63, cw_l64, cw_l80, cw_l97, cw_l99, cw_l100, cw_l255, cw_l500, cw_l999, cw_l65536, cd_inN, nI_clamp, nI_add, pk_mul, cw_subc, cw_zz, pk_div, cw_ltN, cw_eqN, cw_tf0, cw_tf1, cw_tfa, cw_bi, cw_bl, cw_bv, if_true, if_false, Bool.false_eq_true, Bool.true_eq_false, ite_self, cw_neg1, cw_m1a, cw_ztl, cw_zeq, cw_zadd, cw_znadd, cw_nzadd, cw_zsub, cw_zmul, cw_znmul, cw_nzmul, cw_ltNZ, cw_eqZN, cw_eqNZ, cw_ltZN, cw_on, cw_os, cw_c0, cw_c1, cw_c2, cw_c3, cw_c4, cw_c5, cw_c8, cw_c10, cw_c40, cw_c80, cw_c100, cp_144z, cp_140n, cw_mabs, cw_mod8, decide_eq_true_eq, not_false_eq_true, not_true_eq_false, true_and, and_true, false_and, and_false, decide_eq_false_iff_not, Nat.not_lt, Nat.not_le, if_pos, if_neg, hM.1.1.2.2.1]
  refine cw_ci (cw_mono (cp_221 hK hM h7 (h := h) (p := p) (q := q) (by omega) (by omega) (by omega)) ?_)
  intro v I1 J1 ⟨hv, hJ, hM1, hF, h48⟩
  subst hv hJ
  refine ⟨_, rfl, ?_⟩
  refine cw_m (fun _ => cd_s222_37) ?_
  cases o with
  | none =>
    rw [if_pos (show cd_oi none = -1 from rfl)]
    exact cw_ret ⟨rfl, hM1, ce_fCr hF⟩
  | some k =>
    have hk := ho k rfl
    have c0 := cp_220 (L := L) (w := w) (I := I1) (J := J1) (b := 3) (n := D 0 2 - 1 - k) (by decide) (by omega)
    have hpos : 0 < 3 ^ (D 0 2 - 1 - k) := Nat.pow_pos (by decide)
    have hpl : 3 ^ (D 0 2 - 1 - k) ≤ 2187 := ce_pw3 (by omega)
    have hne : ¬ nI k = -1 := fun q => absurd (show nI k < 0 by rw [q]; decide) (nI_pos (by omega))
    have hbl : (ce_mo D S h p q (3 ^ D 0 2)).2 < 2 ^ 20 := by
      have : ∀ n, (ce_mo D S h p q n).2 ≤ n := by
        intro n
        induction n with
        | zero => exact Nat.zero_le _
        | succ n ih =>
          unfold ce_mo
          split
          · exact Nat.le_succ n
          · omega
      have h3 := ce_pw3 h7
      have := this (3 ^ D 0 2)
      omega
    rw [cw_os, if_neg hne]
    simp (disch := omega) only [cw_l0, cw_l1, cw_l2, cw_l3, cw_l4, cw_l5, cw_l6, cw_l7, cw_l8, cw_l9, cw_l10, cw_l11, cw_l12, cw_l13, cw_l14, cw_l15, cw_l16, cw_l17, cw_l18, cw_l19, cw_l20, cw_l27, cw_l28, cw_l31, cw_l32, cw_l40, cw_l52, cw_l60, cw_l61, cw_l63, cw_l64, cw_l80, cw_l97, cw_l99, cw_l100, cw_l255, cw_l500, cw_l999, cw_l65536, cd_inN, nI_clamp, nI_add, pk_mul, cw_subc, cw_zz, pk_div, cw_ltN, cw_eqN, cw_tf0, cw_tf1, cw_tfa, cw_bi, cw_bl, cw_bv, if_true, if_false, Bool.false_eq_true, Bool.true_eq_false, ite_self, cw_neg1, cw_m1a, cw_ztl, cw_zeq, cw_zadd, cw_znadd, cw_nzadd, cw_zsub, cw_zmul, cw_znmul, cw_nzmul, cw_ltNZ, cw_eqZN, cw_eqNZ, cw_ltZN, cw_on, cw_os, cw_c0, cw_c1, cw_c2, cw_c3, cw_c4, cw_c5, cw_c8, cw_c10, cw_c40, cw_c80, cw_c100, cp_144z, cp_140n, cw_mabs, cw_mod8, decide_eq_true_eq, not_false_eq_true, not_true_eq_false, true_and, and_true, false_and, and_false, decide_eq_false_iff_not, Nat.not_lt, Nat.not_le, if_pos, if_neg, hM1.1.1.2.2.1, c0, h48]
    refine cw_m (fun _ => cd_s222_53) ?_
    simp (disch := omega) only [cw_l0, cw_l1, cw_l2, cw_l3, cw_l4, cw_l5, cw_l6, cw_l7, cw_l8, cw_l9, cw_l10, cw_l11, cw_l12, cw_l13, cw_l14, cw_l15, cw_l16, cw_l17, cw_l18, cw_l19, cw_l20, cw_l27, cw_l28, cw_l31, cw_l32, cw_l40, cw_l52, cw_l60, cw_l61, cw_l63, cw_l64, cw_l80, cw_l97, cw_l99, cw_l100, cw_l255, cw_l500, cw_l999, cw_l65536, cd_inN, nI_clamp, nI_add, pk_mul, cw_subc, cw_zz, pk_div, cw_ltN, cw_eqN, cw_tf0, cw_tf1, cw_tfa, cw_bi, cw_bl, cw_bv, if_true, if_false, Bool.false_eq_true, Bool.true_eq_false, ite_self, cw_neg1, cw_m1a, cw_ztl, cw_zeq, cw_zadd, cw_znadd, cw_nzadd, cw_zsub, cw_zmul, cw_znmul, cw_nzmul, cw_ltNZ, cw_eqZN, cw_eqNZ, cw_ltZN, cw_on, cw_os, cw_c0, cw_c1, cw_c2, cw_c3, cw_c4, cw_c5, cw_c8, cw_c10, cw_c40, cw_c80, cw_c100, cp_144z, cp_140n, cw_mabs, cw_mod8, decide_eq_true_eq, not_false_eq_true, not_true_eq_false, true_and, and_true, false_and, and_false, decide_eq_false_iff_not, Nat.not_lt, Nat.not_le, if_pos, if_neg]
    unfold ce_mA
    refine cw_ret ⟨?_, hM1, ce_fCr hF⟩
    have hdl := Nat.div_le_self (ce_mo D S h p q (3 ^ D 0 2)).2 (3 ^ (D 0 2 - 1 - k))
    rw [pk_rem (by omega) (by decide) (by decide)]
end CES
