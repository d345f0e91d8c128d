/-! ===== the class: what is asked of rooms ===== -/
theorem cf_gt {x : Int32} {n : Nat} (hn : n + 1 < 2 ^ 31) : (nI n < x) ↔ ¬ (x < nI (n + 1)) := by
  rw [Int32.lt_iff_toInt_lt, Int32.lt_iff_toInt_lt, ← zI_n, ← zI_n, zI_ti (by omega) (by omega), zI_ti (by omega) (by omega)]
  omega
section CGO
variable {L : Nat} {w : Bool} {I : Nat → Nat → Int32} {J : Nat → Nat → Int64} {D : cd_D} {S : cd_S}
variable {Y : ce_Y}
theorem cp_95 (hK : ce_ok D S Y) (hM : cf_M D S Y w I J) {h : Nat} (h1 : 1 ≤ h) (h2 : h ≤ 20) : cw L w (cd_c 95 [.ref 2, .int (nI h)] (cd_mm L w I J)) (fun v I1 J1 => v = some (.long (lN (ce_msk (cf_bo (ce_rm D S h) (ce_gt (ce_rm D S h))) 64))) ∧ cf_M D S Y w I1 J1 ∧ cf_fr I I1) := by
  refine cw_c (l := [_, _]) rfl rfl ?_
  refine cw_m (fun _ => cd_s95_0) ?_
  refine cw_cv (cw_mono (cp_53p hK hM) ?_)
  intro v I1 J1 ⟨hv, M1, f1, V⟩
  refine ⟨hv, ?_⟩
  refine cw_m (fun _ => cd_s95_7) ?_
  rw [cp_90 (cf_ple w) (Or.inr rfl) (Or.inr rfl) hK.1 hK.2.1.1 M1.1.1 M1.1.2.1 V h1 h2, cw_bl]
  refine cw_m (fun _ => cd_s95_15) ?_
  rw [cp_94, cw_bl]
  refine cw_m (fun _ => cd_s95_16) ?_
  exact cw_ret ⟨rfl, M1, f1⟩
theorem cp_101n (hM : cf_M D S Y w I J) {x y : Int32} (hx : ce_ih x = false ∨ ce_ix y 4 = false) : cw L w (cd_c 101 [.ref 2, .int x, .int y] (cd_mm L w I J)) (cf_post (.int (-1002)) D S Y w I) := by
  refine cw_c (l := [_, _, _, _, _]) rfl rfl ?_
  refine cw_m (fun _ => cd_s101_0) ?_
  rw [cp_88, cw_bi]
  refine cw_m (fun _ => cd_s101_2) ?_
  cases hq : ce_ih x with
  | false =>
    rw [if_pos (show cd_tf false = 0 from rfl)]
    exact cw_ret ⟨rfl, hM, cf_fr.rf⟩
  | true =>
    rw [if_neg (show ¬ cd_tf true = 0 by decide)]
    rcases hx with h | h
    · rw [h] at hq; cases hq
    · by_cases h0 : y < 0
      · rw [if_pos h0]
        exact cw_ret ⟨rfl, hM, cf_fr.rf⟩
      · rw [if_neg h0]
        rcases cf_ix_f (by decide) h with h1 | h1
        · exact absurd h1 h0
        · rw [if_pos (show (3 : Int32) < y from (cf_gt (n := 3) (by decide)).mpr h1)]
          exact cw_ret ⟨rfl, hM, cf_fr.rf⟩
theorem cf_bo_gs {P : Nat → Bool} : fa_cnt (cf_bo P (ce_gt P)) 64 = ce_gs P := by
  unfold ce_gs
  cases ce_gt P with
  | none => exact cf_cnt0
  | some f => rfl
theorem cp_101 (hK : ce_ok D S Y) (hM : cf_M D S Y w I J) {h : Nat} {y : Int32} (h1 : 1 ≤ h) (h2 : h ≤ 20) (hy : ce_ix y 4 = true) : cw L w (cd_c 101 [.ref 2, .int (nI h), .int y] (cd_mm L w I J)) (cf_post (.int (ce_roA D S h y)) D S Y w I) := by
  refine cw_c (l := [_, _, _, _, _]) rfl rfl ?_
  refine cw_m (fun _ => cd_s101_0) ?_
  rw [cp_88, cw_bi, ce_ih_n h1 h2]
  refine cw_m (fun _ => cd_s101_2) ?_
  have y0 : ¬ y < 0 ∧ ¬ (3 : Int32) < y := by
    obtain ⟨t, ht, rfl⟩ := ce_ix_t hy
    exact ⟨nI_pos (by omega), fun q => (cf_gt (n := 3) (by decide)).mp q (nI_lt ht (by decide))⟩
  rw [if_neg (show ¬ cd_tf true = 0 by decide), if_neg y0.1, if_neg y0.2]
  refine cw_cl (cw_mono (cp_95 hK hM h1 h2) ?_)
  intro v I1 J1 ⟨hv, M1, f1⟩
  refine ⟨_, hv, ?_⟩
  refine cw_m (fun _ => cd_s101_13) ?_
  rw [show ce_roA D S h y = if y = 0 then nI (ce_gs (ce_rm D S h)) else if y = 1 then cd_oi (ce_gt (ce_rm D S h)) else if y = 2 then nI (ce_drs D S (ce_rm D S h)) else zI (ce_drk D (ce_rm D S h)) from rfl]
  refine cw_if (fun h => ?_) (fun h => ?_)
  · rw [if_pos h, cp_93m, cw_bi, cf_bo_gs]
    refine cw_m (fun _ => cd_s101_18) ?_
    exact cw_ret ⟨rfl, M1, f1⟩
  rw [if_neg h]
  refine cw_if (fun h => ?_) (fun h => ?_)
  · rw [if_pos h, cp_96, cw_bi]
    refine cw_m (fun _ => cd_s101_21) ?_
    exact cw_ret ⟨rfl, M1, f1⟩
  rw [if_neg h]
  refine cw_if (fun h => ?_) (fun h => ?_)
  · rw [if_pos h, cp_97 hK M1, cw_bl]
    refine cw_m (fun _ => cd_s101_25) ?_
    rw [cp_98, cw_bi]
    refine cw_m (fun _ => cd_s101_26) ?_
    exact cw_ret ⟨rfl, M1, f1⟩
  rw [if_neg h, cp_100 hK M1, cw_bi]
  refine cw_m (fun _ => cd_s101_30) ?_
  exact cw_ret ⟨rfl, M1, f1⟩
theorem cp_102n (hM : cf_M D S Y w I J) {x : Int32} (hx : ce_ih x = false) : cw L w (cd_c 102 [.ref 2, .int x] (cd_mm L w I J)) (cf_post (.long (-1002)) D S Y w I) := by
  refine cw_c (l := [_, _]) rfl rfl ?_
  refine cw_m (fun _ => cd_s102_0) ?_
  rw [cp_88, cw_bi, hx]
  refine cw_m (fun _ => cd_s102_2) ?_
  rw [if_pos (show cd_tf false = 0 from rfl)]
  exact cw_ret ⟨rfl, hM, cf_fr.rf⟩
theorem cp_102 (hK : ce_ok D S Y) (hM : cf_M D S Y w I J) {h : Nat} (h1 : 1 ≤ h) (h2 : h ≤ 20) : cw L w (cd_c 102 [.ref 2, .int (nI h)] (cd_mm L w I J)) (cf_post (.long (lN (ce_ceA (ce_rm D S h)))) D S Y w I) := by
  refine cw_c (l := [_, _]) rfl rfl ?_
  refine cw_m (fun _ => cd_s102_0) ?_
  rw [cp_88, cw_bi, ce_ih_n h1 h2]
  refine cw_m (fun _ => cd_s102_2) ?_
  rw [if_neg (show ¬ cd_tf true = 0 by decide)]
  refine cw_cl (cw_mono (cp_95 hK hM h1 h2) ?_)
  intro v I1 J1 ⟨hv, M1, f1⟩
  refine ⟨_, hv, ?_⟩
  refine cw_m (fun _ => cd_s102_6) ?_
  rw [cf_bo_A]
  exact cw_ret ⟨rfl, M1, f1⟩
theorem cp_104n (hM : cf_M D S Y w I J) {x : Int32} (hx : ce_ih x = false) : cw L w (cd_c 104 [.ref 2, .int x] (cd_mm L w I J)) (cf_post (.int (-1002)) D S Y w I) := by
  refine cw_c (l := [_, _]) rfl rfl ?_
  refine cw_m (fun _ => cd_s104_0) ?_
  rw [cp_88, cw_bi, hx]
  refine cw_m (fun _ => cd_s104_2) ?_
  rw [if_pos (show cd_tf false = 0 from rfl)]
  exact cw_ret ⟨rfl, hM, cf_fr.rf⟩
theorem cp_104 (hK : ce_ok D S Y) (hM : cf_M D S Y w I J) {h : Nat} (h1 : 1 ≤ h) (h2 : h ≤ 20) : cw L w (cd_c 104 [.ref 2, .int (nI h)] (cd_mm L w I J)) (cf_post (.int (nI (fa_cnt (fun c => ce_in (ce_rm D S h) c c) 64))) D S Y w I) := by
  refine cw_c (l := [_, _]) rfl rfl ?_
  refine cw_m (fun _ => cd_s104_0) ?_
  rw [cp_88, cw_bi, ce_ih_n h1 h2]
  refine cw_m (fun _ => cd_s104_2) ?_
  rw [if_neg (show ¬ cd_tf true = 0 by decide)]
  refine cw_cv (cw_mono (cp_53p hK hM) ?_)
  intro v I1 J1 ⟨hv, M1, f1, V⟩
  refine ⟨hv, ?_⟩
  refine cw_m (fun _ => cd_s104_12) ?_
  rw [cp_90 (cf_ple w) (Or.inr rfl) (Or.inr rfl) hK.1 hK.2.1.1 M1.1.1 M1.1.2.1 V h1 h2, cw_bl]
  refine cw_m (fun _ => cd_s104_20) ?_
  rw [cp_103, cw_bi]
  refine cw_m (fun _ => cd_s104_21) ?_
  exact cw_ret ⟨rfl, M1, f1⟩
theorem cp_105n (hM : cf_M D S Y w I J) {x : Int32} (hx : ce_ix x 64 = false) : cw L w (cd_c 105 [.ref 2, .int x] (cd_mm L w I J)) (cf_post (.int (-1001)) D S Y w I) := by
  refine cw_c (l := [_, _]) rfl rfl ?_
  refine cw_m (fun _ => cd_s105_0) ?_
  rw [cp_69, cw_bi, hx]
  refine cw_m (fun _ => cd_s105_3) ?_
  rw [if_pos (show cd_tf false = 0 from rfl)]
  exact cw_ret ⟨rfl, hM, cf_fr.rf⟩
theorem cp_105 (hK : ce_ok D S Y) (hM : cf_M D S Y w I J) {c : Nat} (hc : c < 64) : cw L w (cd_c 105 [.ref 2, .int (nI c)] (cd_mm L w I J)) (cf_post (.int (nI (ce_lit D c))) D S Y w I) := by
  refine cw_c (l := [_, _]) rfl rfl ?_
  refine cw_m (fun _ => cd_s105_0) ?_
  rw [cp_69, cw_bi, ce_ix_n hc (by decide)]
  refine cw_m (fun _ => cd_s105_3) ?_
  rw [if_neg (show ¬ cd_tf true = 0 by decide), show (1 : Int64) <<< ((nI c).toInt64 &&& 63) = lN (ce_msk (fun d => decide (c = d)) 64) by
    rw [show (1 : Int64) = lN 1 from rfl, wb_shl 1 hc, Nat.one_mul, cf_one hc], cp_99 (g := fun d => decide (c = d)) (cf_ple w) hK.1 hM.1.1 hc (decide_eq_true rfl) rfl (fun d _ h => by
      rw [decide_eq_true_eq] at h
      rw [h]
      exact Nat.le_refl _), cw_bi]
  refine cw_m (fun _ => cd_s105_10) ?_
  exact cw_ret ⟨rfl, hM, cf_fr.rf⟩
end CGO
