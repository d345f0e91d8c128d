/-! ===== the class: what is asked of a den ===== -/
section CGF
variable {L : Nat} {w : Bool} {I : Nat → Nat → Int32} {J : Nat → Nat → Int64} {D : cd_D} {S : cd_S}
variable {Y : ce_Y}
theorem cf_M.of (hM : cf_M D S Y w I J) (hK : ce_ok D S Y) {I1 : Nat → Nat → Int32} (f : ∀ a k, ¬ (18 ≤ a ∧ a ≤ 20 ∨ 22 ≤ a ∧ a ≤ 41 ∨ a = 21 ∧ k = 5) → I1 a k = I a k) : cf_M D S Y w I1 J := ⟨hM.1.of hK.2.2.1.2.2.2.1 (fun a k _ h => f a k (by unfold cf_scr at h; omega)) (fun _ _ _ => rfl), hM.2.of (fun a k h1 h2 => f a k (by omega)) (fun _ => rfl)⟩
theorem cp_48 (hK : ce_ok D S Y) (hM : cf_M D S Y w I J) {x : Int32} : cw L w (cd_c 48 [.ref 2, .int x] (cd_mm L w I J)) (cf_post (.int (ce_cntA D S Y x)) D S Y w I) := by
  have h12 := hK.1.1.2.2.1
  have hl := hK.2.1.1.2.2.1
  have hl2 : S 0 2 < 4096 := Nat.lt_of_lt_of_le hl (Nat.le_trans (Nat.pow_le_pow_right (by decide) h12) (by decide))
  refine cw_c (l := [_, _]) rfl rfl ?_
  refine cw_m (fun _ => cd_s48_0) ?_
  rw [show ce_cntA D S Y x = if x = 0 then nI (D 0 0) else if x = 1 then nI (D 0 1) else if x = 2 then nI (D 0 2) else if x = 3 then nI (fa_cnt (cd_held S) (D 0 2)) else if x = 4 then nI (ceU Y) else if x = 5 then nI (ceE Y).length else if x = 6 then nI (ceN Y) else -1002 from rfl, hM.1.1.1.1, hM.1.1.1.2.1, hM.1.1.1.2.2.1, hM.1.2.1.1.2, hM.1.2.2.2.1.1.2.2, hM.1.2.2.2.1.2.2.2.1.1, hM.1.2.2.2.1.1.1, cp_47 hl2, cf_cnt_low hl h12, cw_bi]
  refine cw_if (fun h => ?_) (fun h => ?_)
  · rw [if_pos h]; exact cw_ret ⟨rfl, hM, cf_fr.rf⟩
  rw [if_neg h]
  refine cw_if (fun h => ?_) (fun h => ?_)
  · rw [if_pos h]; exact cw_ret ⟨rfl, hM, cf_fr.rf⟩
  rw [if_neg h]
  refine cw_if (fun h => ?_) (fun h => ?_)
  · rw [if_pos h]; exact cw_ret ⟨rfl, hM, cf_fr.rf⟩
  rw [if_neg h]
  refine cw_if (fun h => ?_) (fun h => ?_)
  · rw [if_pos h]
    refine cw_m (fun _ => cd_s48_18) ?_
    exact cw_ret ⟨rfl, hM, cf_fr.rf⟩
  rw [if_neg h]
  refine cw_if (fun h => ?_) (fun h => ?_)
  · rw [if_pos h]; exact cw_ret ⟨rfl, hM, cf_fr.rf⟩
  rw [if_neg h]
  refine cw_if (fun h => ?_) (fun h => ?_)
  · rw [if_pos h]; exact cw_ret ⟨rfl, hM, cf_fr.rf⟩
  rw [if_neg h]
  refine cw_if (fun h => ?_) (fun h => ?_)
  · rw [if_pos h]; exact cw_ret ⟨rfl, hM, cf_fr.rf⟩
  rw [if_neg h]
  exact cw_ret ⟨rfl, hM, cf_fr.rf⟩
theorem cp_46 (hM : cf_M D S Y w I J) : cw L w (cd_c 46 [.ref 2] (cd_mm L w I J)) (cf_post (.int (zI (ceP Y))) D S Y w I) := by
  refine cw_c (l := [_]) rfl rfl ?_
  refine cw_m (fun _ => cd_s46_0) ?_
  rw [hM.1.2.2.2.1.1.2.1]
  exact cw_ret ⟨rfl, hM, cf_fr.rf⟩
theorem cp_63n (hK : ce_ok D S Y) (hM : cf_M D S Y w I J) {x y : Int32} (hx : ce_ix x (D 0 0) = false) : cw L w (cd_c 63 [.ref 2, .int x, .int y] (cd_mm L w I J)) (cf_post (.int (-1001)) D S Y w I) := by
  refine cw_c (l := [_, _, _]) rfl rfl ?_
  refine cw_m (fun _ => cd_s63_0) ?_
  rw [cp_49 hM.1.1 hK.1, cw_bi, hx]
  refine cw_m (fun _ => cd_s63_3) ?_
  rw [if_pos (show cd_tf false = 0 from rfl)]
  exact cw_ret ⟨rfl, hM, cf_fr.rf⟩
theorem cp_63 (hK : ce_ok D S Y) (hM : cf_M D S Y w I J) {t : Nat} {x : Int32} (ht : t < D 0 0) : cw L w (cd_c 63 [.ref 2, .int (nI t), .int x] (cd_mm L w I J)) (cf_post (.int (ce_thA D S t x)) D S Y w I) := by
  have h8 := hK.1.1.1
  have hl1 : S 0 1 < 65536 := Nat.lt_of_lt_of_le hK.2.1.1.2.1 (Nat.le_trans (Nat.pow_le_pow_right (by decide) h8) (by decide))
  refine cw_c (l := [_, _, _]) rfl rfl ?_
  refine cw_m (fun _ => cd_s63_0) ?_
  rw [cp_49 hM.1.1 hK.1, cw_bi, ce_ix_n ht (by omega)]
  refine cw_m (fun _ => cd_s63_3) ?_
  rw [if_neg (show ¬ cd_tf true = 0 by decide)]
  have fin : ∀ I1 J1, cf_M D S Y w I1 J1 → cf_fr I I1 → (x = 6 ∨ x = 7 ∨ x = 8 → cf_G D S (D 0 2) I1) → cw L w (cd_go 63 27 [.ref 2, .int (nI t), .int x] [] (cd_mm L w I1 J1)) (cf_post (.int (ce_thA D S t x)) D S Y w I) := by
    intro I1 J1 M1 f1 G1
    have hin : cd_in (nI t) 8 = true := cd_inN (by omega) (by decide)
    have hP := M1.1.1.2.1 t ht
    refine cw_m (fun _ => cd_s63_27) ?_
    rw [show ce_thA D S t x = if x = 0 then nI (S 1 t) else if x = 1 then nI (D 1 t) else if x = 2 then nI (D 2 t) else if x = 3 then nI (D 3 t) else if x = 4 then nI (D 4 t) else if x = 5 then cd_tf ((S 0 1).testBit t) else if x = 6 then zI (ce_pull D S (ce_draw D S 0) t) else if x = 7 then zI (ce_pull D S (ce_draw D S 1) t) else if x = 8 then zI (ce_size D S t) else -1002 from rfl, if_pos hin, if_pos hin, if_pos hin, if_pos hin, if_pos hin, if_pos hin, if_pos hin, nI_clamp (by omega), hP.1, hP.2.1, hP.2.2.1, hP.2.2.2, M1.1.2.1.2.1 t ht, cp_61 (Or.inr rfl) M1.1.2.1.1.1 hl1 (by omega), cw_bi]
    refine cw_if (fun h => ?_) (fun h => ?_)
    · rw [if_pos h]; exact cw_ret ⟨rfl, M1, f1⟩
    rw [if_neg h]
    refine cw_if (fun h => ?_) (fun h => ?_)
    · rw [if_pos h]; exact cw_ret ⟨rfl, M1, f1⟩
    rw [if_neg h]
    refine cw_if (fun h => ?_) (fun h => ?_)
    · rw [if_pos h]; exact cw_ret ⟨rfl, M1, f1⟩
    rw [if_neg h]
    refine cw_if (fun h => ?_) (fun h => ?_)
    · rw [if_pos h]; exact cw_ret ⟨rfl, M1, f1⟩
    rw [if_neg h]
    refine cw_if (fun h => ?_) (fun h => ?_)
    · rw [if_pos h]; exact cw_ret ⟨rfl, M1, f1⟩
    rw [if_neg h]
    refine cw_if (fun h => ?_) (fun h => ?_)
    · rw [if_pos h]
      refine cw_m (fun _ => cd_s63_63) ?_
      cases (S 0 1).testBit t with
      | false => rw [if_pos (show cd_tf false = 0 from rfl)]; exact cw_ret ⟨rfl, M1, f1⟩
      | true => rw [if_neg (show ¬ cd_tf true = 0 by decide)]; exact cw_ret ⟨rfl, M1, f1⟩
    rw [if_neg h]
    refine cw_if (fun h => ?_) (fun h => ?_)
    · rw [if_pos h]; exact cw_ret ⟨congrArg (fun z => some (Value.int z)) ((G1 (Or.inl h)) t ht).1, M1, f1⟩
    rw [if_neg h]
    refine cw_if (fun h => ?_) (fun h => ?_)
    · rw [if_pos h]; exact cw_ret ⟨congrArg (fun z => some (Value.int z)) ((G1 (Or.inr (Or.inl h))) t ht).2.1, M1, f1⟩
    rw [if_neg h]
    refine cw_if (fun h => ?_) (fun h => ?_)
    · rw [if_pos h, cp_62 hK.1 ht (G1 (Or.inr (Or.inr h))), cw_bi]
      refine cw_m (fun _ => cd_s63_84) ?_
      exact cw_ret ⟨rfl, M1, f1⟩
    rw [if_neg h]
    exact cw_ret ⟨rfl, M1, f1⟩
  refine cw_if (fun h => ?_) (fun h => ?_)
  · refine fin I J hM cf_fr.rf (fun q => ?_)
    rcases q with rfl | rfl | rfl
    · exact absurd h (by decide)
    · exact absurd h (by decide)
    · exact absurd h (by decide)
  refine cw_if (fun h => ?_) (fun h => ?_)
  · refine fin I J hM cf_fr.rf (fun q => ?_)
    rcases q with rfl | rfl | rfl
    · exact absurd h (by decide)
    · exact absurd h (by decide)
    · exact absurd h (by decide)
  refine cw_ci (cw_mono (cp_58p hK hM) ?_)
  intro v I1 J1 ⟨k, hk, hv, M1, f1, W1⟩
  refine ⟨_, hv, ?_⟩
  refine cw_m (fun _ => cd_s63_26) ?_
  refine cw_cv (cw_mono (cp_60 (cf_ple w) (Or.inr rfl) hK.1 hK.2.1.1 M1.1.1 M1.1.2.1 hk W1) ?_)
  intro v I2 J2 ⟨hv, hJ, f2, G2⟩
  have hJ := hJ.symm
  subst hJ
  exact ⟨hv, fin I2 J1 (M1.of hK (fun a k h => f2 a k (by omega))) (f1.tr (fun a k h => f2 a k (by omega))) (fun _ => G2)⟩
theorem cp_67n (hK : ce_ok D S Y) (hM : cf_M D S Y w I J) {x y : Int32} (hx : ce_ix x (D 0 2) = false) : cw L w (cd_c 67 [.ref 2, .int x, .int y] (cd_mm L w I J)) (cf_post (.int (-1001)) D S Y w I) := by
  refine cw_c (l := [_, _, _]) rfl rfl ?_
  refine cw_m (fun _ => cd_s67_0) ?_
  rw [cp_64 hM.1.1 hK.1, cw_bi, hx]
  refine cw_m (fun _ => cd_s67_3) ?_
  rw [if_pos (show cd_tf false = 0 from rfl)]
  exact cw_ret ⟨rfl, hM, cf_fr.rf⟩
theorem cp_67 (hK : ce_ok D S Y) (hM : cf_M D S Y w I J) {k : Nat} {x : Int32} (hk : k < D 0 2) : cw L w (cd_c 67 [.ref 2, .int (nI k), .int x] (cd_mm L w I J)) (cf_post (.int (ce_hoA D S k x)) D S Y w I) := by
  have h12 := hK.1.1.2.2.1
  have hl2 : S 0 2 < 65536 := Nat.lt_of_lt_of_le hK.2.1.1.2.2.1 (Nat.le_trans (Nat.pow_le_pow_right (by decide) h12) (by decide))
  have hin : cd_in (nI k) 12 = true := cd_inN (by omega) (by decide)
  have hP := hM.1.1.2.2.2 k hk
  have hQ := hM.1.2.1.2.2 k hk
  refine cw_c (l := [_, _, _]) rfl rfl ?_
  refine cw_m (fun _ => cd_s67_0) ?_
  rw [cp_64 hM.1.1 hK.1, cw_bi, ce_ix_n hk (by omega)]
  refine cw_m (fun _ => cd_s67_3) ?_
  rw [if_neg (show ¬ cd_tf true = 0 by decide), show ce_hoA D S k x = if x = 0 then nI (D 11 k) else if x = 1 then nI (D 12 k) else if x = 2 then nI (S 2 k) else if x = 3 then nI (S 3 k) else if x = 4 then cd_tf (cd_held S k) else if x = 5 then zI (ce_dw D S k) else if x = 6 then zI (ce_draw D S 2 k) else -1002 from rfl, if_pos hin, if_pos hin, if_pos hin, if_pos hin, nI_clamp (by omega), hP.1, hP.2, hQ.1, hQ.2, cp_59 (Or.inr rfl) hM.1.2.1.1.2 hl2 (by omega), cw_bi]
  refine cw_if (fun h => ?_) (fun h => ?_)
  · rw [if_pos h]; exact cw_ret ⟨rfl, hM, cf_fr.rf⟩
  rw [if_neg h]
  refine cw_if (fun h => ?_) (fun h => ?_)
  · rw [if_pos h]; exact cw_ret ⟨rfl, hM, cf_fr.rf⟩
  rw [if_neg h]
  refine cw_if (fun h => ?_) (fun h => ?_)
  · rw [if_pos h]; exact cw_ret ⟨rfl, hM, cf_fr.rf⟩
  rw [if_neg h]
  refine cw_if (fun h => ?_) (fun h => ?_)
  · rw [if_pos h]; exact cw_ret ⟨rfl, hM, cf_fr.rf⟩
  rw [if_neg h]
  refine cw_if (fun h => ?_) (fun h => ?_)
  · rw [if_pos h]
    refine cw_m (fun _ => cd_s67_36) ?_
    show cw L w (if cd_tf (cd_held S k) = 0 then _ else _) _
    cases cd_held S k with
    | false => rw [if_pos (show cd_tf false = 0 from rfl)]; exact cw_ret ⟨rfl, hM, cf_fr.rf⟩
    | true => rw [if_neg (show ¬ cd_tf true = 0 by decide)]; exact cw_ret ⟨rfl, hM, cf_fr.rf⟩
  rw [if_neg h]
  refine cw_if (fun h => ?_) (fun h => ?_)
  · rw [if_pos h]
    refine cw_ci (cw_mono (cp_58p hK hM) ?_)
    intro v I1 J1 ⟨i, hi, hv, M1, f1, W1⟩
    refine ⟨_, hv, ?_⟩
    refine cw_m (fun _ => cd_s67_52) ?_
    rw [cp_65 hK.1 hi hk W1, cw_bi]
    refine cw_m (fun _ => cd_s67_54) ?_
    exact cw_ret ⟨rfl, M1, f1⟩
  rw [if_neg h]
  refine cw_if (fun h => ?_) (fun h => ?_)
  · rw [if_pos h]
    refine cw_ci (cw_mono (cp_58p hK hM) ?_)
    intro v I1 J1 ⟨i, hi, hv, M1, f1, W1⟩
    refine ⟨_, hv, ?_⟩
    refine cw_m (fun _ => cd_s67_66) ?_
    rw [cp_66 hK.1 hi hk W1, cw_bi]
    refine cw_m (fun _ => cd_s67_68) ?_
    exact cw_ret ⟨rfl, M1, f1⟩
  rw [if_neg h]
  exact cw_ret ⟨rfl, hM, cf_fr.rf⟩
theorem cp_70n (hK : ce_ok D S Y) (hM : cf_M D S Y w I J) {x y : Int32} (hx : ce_ix x (D 0 1) = false ∨ ce_ix y 64 = false) : cw L w (cd_c 70 [.ref 2, .int x, .int y] (cd_mm L w I J)) (cf_post (.int (-1001)) D S Y w I) := by
  refine cw_c (l := [_, _, _]) rfl rfl ?_
  refine cw_m (fun _ => cd_s70_0) ?_
  rw [cp_68 hM.1.1 hK.1, cw_bi]
  refine cw_m (fun _ => cd_s70_3) ?_
  cases hq : ce_ix x (D 0 1) with
  | false =>
    rw [if_pos (show cd_tf false = 0 from rfl)]
    exact cw_ret ⟨rfl, hM, cf_fr.rf⟩
  | true =>
    rw [if_neg (show ¬ cd_tf true = 0 by decide), cp_69, cw_bi]
    refine cw_m (fun _ => cd_s70_7) ?_
    rcases hx with h | h
    · rw [h] at hq; cases hq
    · rw [h, if_pos (show cd_tf false = 0 from rfl)]
      exact cw_ret ⟨rfl, hM, cf_fr.rf⟩
theorem cf_H_b (hD : cd_okD D) {j c : Nat} (hj : j < D 0 1) : cf_H D S j c = if cd_und D j c then (cd_hangs D S j c, cd_leans D S j c) else (-1, none) := by
  unfold cf_H
  rw [decide_eq_true hj, Bool.true_and]
theorem cp_70 (hK : ce_ok D S Y) (hM : cf_M D S Y w I J) {j c : Nat} (hj : j < D 0 1) (hc : c < 64) : cw L w (cd_c 70 [.ref 2, .int (nI j), .int (nI c)] (cd_mm L w I J)) (cf_post (.int (zI (if cd_und D j c then cd_hangs D S j c else -1))) D S Y w I) := by
  have h3 := hK.1.1.2.1
  refine cw_c (l := [_, _, _]) rfl rfl ?_
  refine cw_m (fun _ => cd_s70_0) ?_
  rw [cp_68 hM.1.1 hK.1, cw_bi, ce_ix_n hj (by omega)]
  refine cw_m (fun _ => cd_s70_3) ?_
  rw [if_neg (show ¬ cd_tf true = 0 by decide), cp_69, cw_bi, ce_ix_n hc (by decide)]
  refine cw_m (fun _ => cd_s70_7) ?_
  rw [if_neg (show ¬ cd_tf true = 0 by decide)]
  refine cw_cv (cw_mono (cp_53p hK hM) ?_)
  intro v I1 J1 ⟨hv, M1, f1, V⟩
  refine ⟨hv, ?_⟩
  refine cw_m (fun _ => cd_s70_17) ?_
  rw [show nI j * 64 + nI c = nI (64 * j + c) by rw [show (64 : Int32) = nI 64 from rfl, pk_mul, nI_add, Nat.mul_comm], if_pos (cd_inN (by omega) (by decide)), nI_clamp (by omega), (V j c (by omega) hc).1, cf_H_b hK.1 hj]
  refine cw_ret ⟨?_, M1, f1⟩
  cases cd_und D j c with
  | false => rfl
  | true => rfl
theorem cp_71n (hK : ce_ok D S Y) (hM : cf_M D S Y w I J) {x y : Int32} (hx : ce_ix x (D 0 1) = false ∨ ce_ix y 64 = false) : cw L w (cd_c 71 [.ref 2, .int x, .int y] (cd_mm L w I J)) (cf_post (.int (-1001)) D S Y w I) := by
  refine cw_c (l := [_, _, _]) rfl rfl ?_
  refine cw_m (fun _ => cd_s71_0) ?_
  rw [cp_68 hM.1.1 hK.1, cw_bi]
  refine cw_m (fun _ => cd_s71_3) ?_
  cases hq : ce_ix x (D 0 1) with
  | false =>
    rw [if_pos (show cd_tf false = 0 from rfl)]
    exact cw_ret ⟨rfl, hM, cf_fr.rf⟩
  | true =>
    rw [if_neg (show ¬ cd_tf true = 0 by decide), cp_69, cw_bi]
    refine cw_m (fun _ => cd_s71_7) ?_
    rcases hx with h | h
    · rw [h] at hq; cases hq
    · rw [h, if_pos (show cd_tf false = 0 from rfl)]
      exact cw_ret ⟨rfl, hM, cf_fr.rf⟩
theorem cp_71 (hK : ce_ok D S Y) (hM : cf_M D S Y w I J) {j c : Nat} (hj : j < D 0 1) (hc : c < 64) : cw L w (cd_c 71 [.ref 2, .int (nI j), .int (nI c)] (cd_mm L w I J)) (cf_post (.int (if cd_und D j c then cd_oi (cd_leans D S j c) else -1003)) D S Y w I) := by
  have h3 := hK.1.1.2.1
  refine cw_c (l := [_, _, _]) rfl rfl ?_
  refine cw_m (fun _ => cd_s71_0) ?_
  rw [cp_68 hM.1.1 hK.1, cw_bi, ce_ix_n hj (by omega)]
  refine cw_m (fun _ => cd_s71_3) ?_
  rw [if_neg (show ¬ cd_tf true = 0 by decide), cp_69, cw_bi, ce_ix_n hc (by decide)]
  refine cw_m (fun _ => cd_s71_7) ?_
  rw [if_neg (show ¬ cd_tf true = 0 by decide), cp_29 (cf_ple w) hM.1.1 h3 hj hc, cw_bi]
  refine cw_m (fun _ => cd_s71_15) ?_
  cases hu : cd_und D j c with
  | false =>
    rw [if_pos (show cd_tf false = 0 from rfl), if_neg (by decide)]
    exact cw_ret ⟨rfl, hM, cf_fr.rf⟩
  | true =>
    rw [if_neg (show ¬ cd_tf true = 0 by decide), if_pos rfl]
    refine cw_cv (cw_mono (cp_53p hK hM) ?_)
    intro v I1 J1 ⟨hv, M1, f1, V⟩
    refine ⟨hv, ?_⟩
    refine cw_m (fun _ => cd_s71_25) ?_
    rw [show nI j * 64 + nI c = nI (64 * j + c) by rw [show (64 : Int32) = nI 64 from rfl, pk_mul, nI_add, Nat.mul_comm], if_pos (cd_inN (by omega) (by decide)), nI_clamp (by omega), (V j c (by omega) hc).2, cf_H_b hK.1 hj, hu]
    exact cw_ret ⟨rfl, M1, f1⟩
end CGF
