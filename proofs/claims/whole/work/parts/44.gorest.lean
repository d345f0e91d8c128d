/-! ===== the reference: goRest ===== -/
def ce_x195 (a k : Nat) : Prop := a = 101 ∨ a = 106 ∨ a = 112 ∨ 117 ≤ a ∧ a ≤ 119 ∨ a = 122 ∨ a = 123 ∨ a = 100 ∧ k = 39
/-- what goRest leaves: events l, the state T -/
def ce_p195 (D : cd_D) (S : cd_S) (R : List (Nat × Nat) × cd_S) (I : Nat → Nat → Int32) (J : Nat → Nat → Int64) : Option Value → (Nat → Nat → Int32) → (Nat → Nat → Int64) → Prop := fun v I1 J1 => v = some (.int (nI R.1.length)) ∧ J1 = J ∧ (∀ a k, ¬ ce_x195 a k → I1 a k = I a k) ∧ (∀ j, j < R.1.length → I1 122 j = nI (R.1.getD j (0, 0)).1 ∧ I1 123 j = nI (R.1.getD j (0, 0)).2) ∧ ∃ S1, cd_refS D S1 I1 ∧ cd_okS D S1 ∧ ce_eff S1 0 = R.2 ∧ ∀ r k, 2 ≤ r → S1 r k = S r k
theorem ce_hap_eff {D : cd_D} {S : cd_S} (hD : cd_okD D) {e : Nat × Nat} (he : ce_okE D S e) : ce_hap D (ce_eff S 0) e = ce_eff (ce_hap D S e) 0 := by
  have hsl : e.2 < D 0 0 → ce_slid D (ce_eff S 0) e.2 = ce_slid D S e.2 := fun h => (ce_eff_geo (S := S) (h := 0)).slid hD h
  funext r k
  unfold ce_hap
  rcases he with ⟨h0, -⟩ | ⟨h1, -⟩ | ⟨h2, h8, -⟩
  · rw [if_pos h0, if_pos h0]
    rcases r with _ | _ | _ | _ | r <;> rfl
  · rw [if_neg (by omega), if_pos h1, if_neg (by omega), if_pos h1]
    rcases r with _ | _ | _ | _ | r <;> rfl
  · rw [if_neg (by omega), if_neg (by omega), if_neg (by omega), if_neg (by omega)]
    have e1 : ∀ t, ce_mv D (ce_eff S 0) e.2 1 t = ce_mv D S e.2 1 t := fun t => by
      unfold ce_mv
      rw [hsl h8]
      rfl
    have em : ce_msk (fun j => cd_held (ce_eff S 0) j && cd_und D (D 11 j) (ce_mv D (ce_eff S 0) e.2 1 (D 12 j))) (D 0 2) = ce_msk (fun j => cd_held S j && cd_und D (D 11 j) (ce_mv D S e.2 1 (D 12 j))) (D 0 2) := ce_msk_cong _ (fun j _ => by rw [e1]; rfl)
    rw [em]
    rcases r with _ | _ | _ | _ | r
    · rfl
    · exact e1 k
    · rfl
    · rfl
    · rfl
theorem ce_hap_23 {D : cd_D} {S : cd_S} {e : Nat × Nat} {r k : Nat} (hr : 2 ≤ r) : ce_hap D S e r k = S r k := by
  obtain ⟨q, rfl⟩ : ∃ q, r = q + 2 := ⟨r - 2, by omega⟩
  unfold ce_hap
  split
  · rfl
  · split
    · rfl
    · rfl
theorem ce_okE_eff {D : cd_D} {S : cd_S} (hD : cd_okD D) {e : Nat × Nat} (he : ce_okE D (ce_eff S 0) e) : ce_okE D S e := by
  rcases he with h | h | ⟨h2, h8, c, hc⟩
  · exact Or.inl h
  · exact Or.inr (Or.inl h)
  · exact Or.inr (Or.inr ⟨h2, h8, c, by rw [← ce_eff_geo.slid hD h8]; exact hc⟩)
section CEF
variable {L : Nat} {w : Bool} {I : Nat → Nat → Int32} {J : Nat → Nat → Int64} {D : cd_D} {S : cd_S}
/-- where the loop stands: events so far, the next one -/
def ce_v195 (D : cd_D) (S : cd_S) (R : List (Nat × Nat) × cd_S) (I : Nat → Nat → Int32) (i : Nat) (I1 : Nat → Nat → Int32) (E : Option (Nat × Nat)) : Prop := (∀ a k, ¬ ce_x195 a k → I1 a k = I a k) ∧ ∃ S1, cd_refS D S1 I1 ∧ cd_okS D S1 ∧ (∀ r k, 2 ≤ r → S1 r k = S r k) ∧ (∀ e, E = some e → i < 60 ∧ ce_okE D S1 e ∧ I1 100 39 = nI e.2 ∧ ce_done D S1 I1) ∧ ∃ l, l.length = i ∧ (∀ j, j < i → I1 122 j = nI (l.getD j (0, 0)).1 ∧ I1 123 j = nI (l.getD j (0, 0)).2) ∧ R = match E with
    | none => (l, ce_eff S1 0)
    | some e => (l ++ e :: (ce_run D (59 - i) (ce_hap D (ce_eff S1 0) e) none 0).1, (ce_run D (59 - i) (ce_hap D (ce_eff S1 0) e) none 0).2)
theorem cp_195L (hD : cd_okD D) (hR : cd_refD D I) (h0 : I 100 38 = 0) {R : List (Nat × Nat) × cd_S} {x1 x2 : Int32} : ∀ (i : Nat) (s : (Nat → Nat → Int32) × Option (Nat × Nat)), i ≤ 60 → ce_v195 D S R I i s.1 s.2 → cw L w (cd_go 195 7 [.ref 100, .int x1, .int x2, .int (nI i), .int (cd_oi (s.2.map Prod.fst))] [] (cd_mm L w s.1 J)) (ce_p195 D S R I J) := by
  have out : ∀ (i : Nat) (I1 : Nat → Nat → Int32), i ≤ 60 → ce_v195 D S R I i I1 none → cw L w (cd_go 195 7 [.ref 100, .int x1, .int x2, .int (nI i), .int (-1)] [] (cd_mm L w I1 J)) (ce_p195 D S R I J) := by
    intro i I1 hi ⟨f1, S1, hT, hS, h23, _, l, hl, ha, hr⟩
    refine cw_m (fun _ => cd_s195_7) ?_
    simp (disch := omega) only [cw_l0, cw_l1, cw_l2, cw_l3, cw_l4, cw_l5, cw_l6, cw_l7, cw_l8, cw_l9, cw_l10, cw_l11, cw_l12, cw_l13, cw_l14, cw_l15, cw_l16, cw_l17, cw_l18, cw_l19, cw_l20, cw_l27, cw_l28, cw_l31, cw_l32, cw_l40, cw_l52, cw_l60, cw_l61, cw_l63, cw_l64, cw_l80, cw_l97, cw_l99, cw_l100, cw_l255, cw_l500, cw_l999, cw_l65536, cd_inN, nI_clamp, nI_add, pk_mul, cw_subc, cw_zz, pk_div, cw_ltN, cw_eqN, cw_tf0, cw_tf1, cw_tfa, cw_bi, cw_bl, cw_bv, if_true, if_false, Bool.false_eq_true, Bool.true_eq_false, ite_self, cw_neg1, cw_m1a, cw_ztl, cw_zeq, cw_zadd, cw_znadd, cw_nzadd, cw_zsub, cw_zmul, cw_znmul, cw_nzmul, cw_ltNZ, cw_eqZN, cw_eqNZ, cw_ltZN, cw_on, cw_os, cw_c0, cw_c1, cw_c2, cw_c3, cw_c4, cw_c5, cw_c8, cw_c10, cw_c40, cw_c80, cw_c100, cp_144z, cp_140n, cw_mabs, cw_mod8, decide_eq_true_eq, not_false_eq_true, not_true_eq_false, true_and, and_true, false_and, and_false, decide_eq_false_iff_not, Nat.not_lt, Nat.not_le, if_pos, if_neg]
    refine cw_ret ?_
    rw [hr]
    exact ⟨by rw [hl], rfl, f1, fun j hj => ha j (by rw [← hl]; exact hj), S1, hT, hS, rfl, h23⟩
  refine cw_up (fun i (s : (Nat → Nat → Int32) × Option (Nat × Nat)) => cd_go 195 7 [.ref 100, .int x1, .int x2, .int (nI i), .int (cd_oi (s.2.map Prod.fst))] [] (cd_mm L w s.1 J)) (fun i s => ce_v195 D S R I i s.1 s.2) 60 ?_ ?_
  · intro ⟨I1, E⟩ hv
    cases E with
    | none => exact out 60 I1 (by omega) hv
    | some e =>
      obtain ⟨_, S1, _, _, _, hE, _⟩ := hv
      exact absurd (hE e rfl).1 (by decide)
  · intro i ⟨I1, E⟩ hi hv K
    cases E with
    | none => exact out i I1 (by omega) hv
    | some e =>
      obtain ⟨f1, S1, hT, hS, h23, hE, l, hl, ha, hr⟩ := (show ce_v195 D S R I i I1 (some e) from hv)
      obtain ⟨-, he, hw, hN⟩ := hE e rfl
      have he1 : e.1 < 3 := by
        rcases he with ⟨h, -⟩ | ⟨h, -⟩ | ⟨h, -⟩ <;> omega
      have hR1 : cd_refD D I1 := hR.of (fun a k h1 h2 => f1 a k (by unfold ce_x195; omega))
      have h01 : I1 100 38 = 0 := by rw [f1 100 38 (by unfold ce_x195; omega), h0]
      show cw L w (cd_go 195 7 [.ref 100, .int x1, .int x2, .int (nI i), .int (nI e.1)] [] (cd_mm L w I1 J)) (ce_p195 D S R I J)
      refine cw_m (fun _ => cd_s195_7) ?_
      simp (disch := omega) only [cw_l0, cw_l1, cw_l2, cw_l3, cw_l4, cw_l5, cw_l6, cw_l7, cw_l8, cw_l9, cw_l10, cw_l11, cw_l12, cw_l13, cw_l14, cw_l15, cw_l16, cw_l17, cw_l18, cw_l19, cw_l20, cw_l27, cw_l28, cw_l31, cw_l32, cw_l40, cw_l52, cw_l60, cw_l61, cw_l63, cw_l64, cw_l80, cw_l97, cw_l99, cw_l100, cw_l255, cw_l500, cw_l999, cw_l65536, cd_inN, nI_clamp, nI_add, pk_mul, cw_subc, cw_zz, pk_div, cw_ltN, cw_eqN, cw_tf0, cw_tf1, cw_tfa, cw_bi, cw_bl, cw_bv, if_true, if_false, Bool.false_eq_true, Bool.true_eq_false, ite_self, cw_neg1, cw_m1a, cw_ztl, cw_zeq, cw_zadd, cw_znadd, cw_nzadd, cw_zsub, cw_zmul, cw_znmul, cw_nzmul, cw_ltNZ, cw_eqZN, cw_eqNZ, cw_ltZN, cw_on, cw_os, cw_c0, cw_c1, cw_c2, cw_c3, cw_c4, cw_c5, cw_c8, cw_c10, cw_c40, cw_c80, cw_c100, cp_144z, cp_140n, cw_mabs, cw_mod8, decide_eq_true_eq, not_false_eq_true, not_true_eq_false, true_and, and_true, false_and, and_false, decide_eq_false_iff_not, Nat.not_lt, Nat.not_le, if_pos, if_neg, cw_uu, hw]
      -- what happens
      have hT2 : cd_refS D S1 (cd_up (cd_up I1 122 i (nI e.1)) 123 i (nI e.2)) := hT.of (fun a k h => by rw [cd_up_a (by omega), cd_up_a (by omega)])
      have hR2 : cd_refD D (cd_up (cd_up I1 122 i (nI e.1)) 123 i (nI e.2)) := hR1.of (fun a k h1 h2 => by rw [cd_up_a (by omega), cd_up_a (by omega)])
      refine cw_cv (cw_mono (cp_194 hD hS hR2 hT2 (fun k hk => by rw [cd_up_a (by decide), cd_up_a (by decide), cd_up_a (by decide), cd_up_a (by decide), cd_up_a (by decide), cd_up_a (by decide)]; exact hN k hk) he (by rw [cd_up_a (by decide), cd_up_a (by decide)]; exact hw)) ?_)
      intro v I3 J3 ⟨hv, hJ, f3, hT3⟩
      subst hv hJ
      refine ⟨rfl, ?_⟩
      have hS3 := ce_hap_ok hS he
      have f13 : ∀ a k, ¬ ce_x195 a k → I3 a k = I a k := fun a k h => by
        rw [f3 a k (by unfold ce_x195 at h; omega), cd_up_a (by unfold ce_x195 at h; omega), cd_up_a (by unfold ce_x195 at h; omega)]
        exact f1 a k h
      have ha3 : ∀ j, j < i + 1 → I3 122 j = nI ((l ++ [e]).getD j (0, 0)).1 ∧ I3 123 j = nI ((l ++ [e]).getD j (0, 0)).2 := fun j hj => by
        rw [f3 122 j (by decide), f3 123 j (by decide)]
        by_cases hji : j = i
        · subst hji
          rw [cd_up_a (by decide), cd_up_s, cd_up_s, List.getD_eq_getElem?_getD, List.getElem?_append_right (by omega), hl, Nat.sub_self]
          exact ⟨rfl, rfl⟩
        · rw [cd_up_a (show (122 : Nat) ≠ 123 by decide), cd_up_k hji, cd_up_k hji, cd_up_k hji, List.getD_eq_getElem?_getD, List.getElem?_append_left (by omega), ← List.getD_eq_getElem?_getD]
          exact ha j (by omega)
      have h033 : I3 100 38 = nI 0 := by rw [f13 100 38 (by unfold ce_x195; omega), h0]; rfl
      have hR3 : cd_refD D I3 := hR.of (fun a k h1 h2 => f13 a k (by unfold ce_x195; omega))
      dsimp only at hr
      rw [ce_hap_eff hD he] at hr
      refine cw_m (fun _ => cd_s195_24) ?_
      by_cases h60 : i + 1 < 60
      · simp (disch := omega) only [cw_l0, cw_l1, cw_l2, cw_l3, cw_l4, cw_l5, cw_l6, cw_l7, cw_l8, cw_l9, cw_l10, cw_l11, cw_l12, cw_l13, cw_l14, cw_l15, cw_l16, cw_l17, cw_l18, cw_l19, cw_l20, cw_l27, cw_l28, cw_l31, cw_l32, cw_l40, cw_l52, cw_l60, cw_l61, cw_l63, cw_l64, cw_l80, cw_l97, cw_l99, cw_l100, cw_l255, cw_l500, cw_l999, cw_l65536, cd_inN, nI_clamp, nI_add, pk_mul, cw_subc, cw_zz, pk_div, cw_ltN, cw_eqN, cw_tf0, cw_tf1, cw_tfa, cw_bi, cw_bl, cw_bv, if_true, if_false, Bool.false_eq_true, Bool.true_eq_false, ite_self, cw_neg1, cw_m1a, cw_ztl, cw_zeq, cw_zadd, cw_znadd, cw_nzadd, cw_zsub, cw_zmul, cw_znmul, cw_nzmul, cw_ltNZ, cw_eqZN, cw_eqNZ, cw_ltZN, cw_on, cw_os, cw_c0, cw_c1, cw_c2, cw_c3, cw_c4, cw_c5, cw_c8, cw_c10, cw_c40, cw_c80, cw_c100, cp_144z, cp_140n, cw_mabs, cw_mod8, decide_eq_true_eq, not_false_eq_true, not_true_eq_false, true_and, and_true, false_and, and_false, decide_eq_false_iff_not, Nat.not_lt, Nat.not_le, if_pos, if_neg]
        refine cw_ci (cw_mono (cp_193 (o := none) (b := 0) hD hS3 hR3 hT3 h033 (by decide) (by decide) (fun t q => by cases q)) ?_)
        intro v I4 J4 ⟨hv, hJ, f4, hN4, hE4⟩
        subst hv hJ
        refine ⟨_, rfl, ?_⟩
        refine cw_m (fun _ => cd_s195_31) ?_
        refine K (I4, ce_next D (ce_eff (ce_hap D S1 e) 0) none 0) (show ce_v195 D S R I (i + 1) I4 (ce_next D (ce_eff (ce_hap D S1 e) 0) none 0) from ⟨fun a k h => ?_, ce_hap D S1 e, hT3.of (fun a k h => f4 a k (by omega) (by omega)), hS3, fun r k h => by rw [ce_hap_23 h, h23 r k h], fun e2 h2 => ⟨h60, ce_okE_eff hD (ce_next_b h2), hE4 e2 h2, hN4⟩, l ++ [e], by simp [hl], fun j hj => ?_, ?_⟩)
        · rw [f4 a k (by unfold ce_x195 at h; omega) (by unfold ce_x195 at h; omega)]
          exact f13 a k h
        · rw [f4 122 j (by omega) (by omega), f4 123 j (by omega) (by omega)]
          exact ha3 j hj
        · rw [hr, show 59 - i = (59 - (i + 1)) + 1 by omega, ce_run_s]
          cases ce_next D (ce_eff (ce_hap D S1 e) 0) none 0 with
          | none => rfl
          | some e2 => 
            dsimp only
            rw [List.append_assoc]
            rfl
      · simp (disch := omega) only [cw_l0, cw_l1, cw_l2, cw_l3, cw_l4, cw_l5, cw_l6, cw_l7, cw_l8, cw_l9, cw_l10, cw_l11, cw_l12, cw_l13, cw_l14, cw_l15, cw_l16, cw_l17, cw_l18, cw_l19, cw_l20, cw_l27, cw_l28, cw_l31, cw_l32, cw_l40, cw_l52, cw_l60, cw_l61, cw_l63, cw_l64, cw_l80, cw_l97, cw_l99, cw_l100, cw_l255, cw_l500, cw_l999, cw_l65536, cd_inN, nI_clamp, nI_add, pk_mul, cw_subc, cw_zz, pk_div, cw_ltN, cw_eqN, cw_tf0, cw_tf1, cw_tfa, cw_bi, cw_bl, cw_bv, if_true, if_false, Bool.false_eq_true, Bool.true_eq_false, ite_self, cw_neg1, cw_m1a, cw_ztl, cw_zeq, cw_zadd, cw_znadd, cw_nzadd, cw_zsub, cw_zmul, cw_znmul, cw_nzmul, cw_ltNZ, cw_eqZN, cw_eqNZ, cw_ltZN, cw_on, cw_os, cw_c0, cw_c1, cw_c2, cw_c3, cw_c4, cw_c5, cw_c8, cw_c10, cw_c40, cw_c80, cw_c100, cp_144z, cp_140n, cw_mabs, cw_mod8, decide_eq_true_eq, not_false_eq_true, not_true_eq_false, true_and, and_true, false_and, and_false, decide_eq_false_iff_not, Nat.not_lt, Nat.not_le, if_pos, if_neg]
        have h59 : 59 - i = 0 := by omega
        refine K (I3, none) (show ce_v195 D S R I (i + 1) I3 none from ⟨f13, ce_hap D S1 e, hT3, hS3, fun r k h => by rw [ce_hap_23 h, h23 r k h], fun e2 h2 => (by cases h2), l ++ [e], by simp [hl], ha3, ?_⟩)
        rw [hr, h59]
        rfl
theorem cp_195 (hD : cd_okD D) (hS : cd_okS D S) (hR : cd_refD D I) (hT : cd_refS D S I) (h0 : I 100 38 = nI 0) {o : Option Nat} {b : Nat} (hb : b < 2 ^ 20) (ho : ∀ t, o = some t → t < 2 ^ 31) : cw L w (cd_c 195 [.ref 100, .int (cd_oi o), .int (nI b)] (cd_mm L w I J)) (ce_p195 D S (ce_run D 60 (ce_eff S 0) o b) I J) := by
  refine cw_c (l := [_, _, _, _, _]) rfl rfl ?_
  refine cw_m (fun _ => cd_s195_0) ?_
  refine cw_ci (cw_mono (cp_193 hD hS hR hT h0 (by decide) hb ho) ?_)
  intro v I4 J4 ⟨hv, hJ, f4, hN4, hE4⟩
  subst hv hJ
  refine ⟨_, rfl, ?_⟩
  refine cw_m (fun _ => cd_s195_6) ?_
  refine cp_195L hD hR h0 0 (I4, ce_next D (ce_eff S 0) o b) (by omega) (show ce_v195 D S (ce_run D 60 (ce_eff S 0) o b) I 0 I4 (ce_next D (ce_eff S 0) o b) from ⟨fun a k h => f4 a k (by unfold ce_x195 at h; omega) (by unfold ce_x195 at h; omega), S, hT.of (fun a k h => f4 a k (by omega) (by omega)), hS, fun _ _ _ => rfl, fun e2 h2 => ⟨by decide, ce_okE_eff hD (ce_next_b h2), hE4 e2 h2, hN4⟩, [], rfl, fun j hj => absurd hj (Nat.not_lt_zero j), ?_⟩)
  rw [show 60 = 59 + 1 from rfl, ce_run_s]
  cases ce_next D (ce_eff S 0) o b with
  | none => rfl
  | some e => rfl
end CEF
