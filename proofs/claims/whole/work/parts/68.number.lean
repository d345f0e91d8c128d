/-! ===== the reference: numbers, stops, words' codes ===== -/
/-- what the parser writes besides its rows -/
def ce_xN (a k : Nat) : Prop := a = 100 ∧ (19 ≤ k ∧ k ≤ 24)
section CFE
variable {L : Nat} {w : Bool} {I : Nat → Nat → Int32} {J : Nat → Nat → Int64} {D : cd_D} {S : cd_S}
variable {x : Nat → Nat} {n q : Nat}
theorem cp_155 {a b c d : Nat} (ha : 97 ≤ a ∧ a ≤ 122) (hb : 97 ≤ b ∧ b ≤ 122) (hc : 97 ≤ c ∧ c ≤ 122) (hd : 97 ≤ d ∧ d ≤ 122) : cd_c 155 [.int (nI a), .int (nI b), .int (nI c), .int (nI d)] (cd_mm L w I J) = some (some (.long (lN (ce_cl [d, c, b, a]))), cd_mm L w I J) := by
  refine cd_c_of (l := [_, _, _, _]) rfl rfl (cd_s155_0 ?_)
  have e : ce_cl [d, c, b, a] = 27 * (27 * (27 * (a - 96) + b - 96) + c - 96) + d - 96 := by
    show 27 * (27 * (27 * (27 * 0 + (a - 96)) + (b - 96)) + (c - 96)) + (d - 96) = _
    omega
  rw [nI_l (by omega), nI_l (by omega), nI_l (by omega), nI_l (by omega), show (27 : Int64) = lN 27 from rfl, show (96 : Int64) = lN 96 from rfl, lN_sub (by omega), lN_mul, lN_add, lN_sub (by omega), lN_mul, lN_add, lN_sub (by omega), lN_mul, lN_add, lN_sub (by omega), e]
theorem cp_156 {l : List Nat} {c : Nat} (hc : 97 ≤ c ∧ c ≤ 122) : cd_c 156 [.long (lN (ce_cl l)), .int (nI c)] (cd_mm L w I J) = some (some (.long (lN (ce_cl (c :: l)))), cd_mm L w I J) := by
  refine cd_c_of (l := [_, _, _]) rfl rfl (cd_s156_0 ?_)
  have e : ce_cl (c :: l) = 27 * ce_cl l + c - 96 := by
    show 27 * ce_cl l + (c - 96) = _
    omega
  rw [nI_l (by omega), show (27 : Int64) = lN 27 from rfl, show (96 : Int64) = lN 96 from rfl, lN_mul, lN_add, lN_sub (by omega), e]
theorem cp_138w {a b c : Int32} : cd_c 138 [.long a.toInt64, .long b.toInt64, .long c.toInt64] (cd_mm L w I J) = some (some (.int (cd_tf (decide (b ≤ a) && decide (a ≤ c)))), cd_mm L w I J) := by
  rw [cp_138]
  simp only [fa_wide_le]
/-- the number behind the first figure -/
theorem cp_157 (hn : n ≤ 500) (hx : ∀ k, x k < 256) (ht : ce_txt x n I) (hq : q ≤ n) (h20 : I 100 20 = nI q) {lo hi : Nat} (hlo : lo < 1000) (hhi : hi < 1000) {hiI : Int32} (hI : hiI = zI ((hi : Int) - 1)) : cw L w (cd_c 157 [.ref 100, .int (nI lo), .int hiI] (cd_mm L w I J)) (fun v I1 J1 => J1 = J ∧ (∀ a k, ¬ ce_xN a k → I1 a k = I a k) ∧ match ce_num x n lo hi q with
    | .ok (u, s, e) => v = some (.int (nI 0)) ∧ I1 100 23 = nI u ∧ I1 100 24 = nI s ∧ I1 100 20 = nI e ∧ I1 100 19 = I 100 19
    | .error (f, p) => v = some (.int (nI f)) ∧ I1 100 19 = nI p) := by
  obtain ⟨b1, b2, -, -⟩ := ce_end_b (p := fun k => !decide (x k = 32)) hq
  replace b1 : q ≤ ce_sk x n q := b1
  replace b2 : ce_sk x n q ≤ n := b2
  refine cw_c (l := [_, _, _, _]) rfl rfl ?_
  refine cw_m (fun _ => cd_s157_0) ?_
  refine cw_ci (cw_mono (cp_152 hn hx ht hq h20) ?_)
  intro v I1 J1 ⟨hv, hJ, f1, g1⟩
  subst hv hJ
  refine ⟨_, rfl, ?_⟩
  unfold ce_num
  generalize hsk : ce_sk x n q = s at *
  have ht1 : ce_txt x n I1 := ht.of (fun a k h => f1 a k (by omega))
  have g19 : I1 100 19 = I 100 19 := f1 _ _ (by omega)
  have hf1 : ∀ a k, ¬ ce_xN a k → I1 a k = I a k := fun a k h => f1 a k (by unfold ce_xN at h; omega)
  refine cw_m (fun _ => cd_s157_2) ?_
  by_cases h1 : s < n ∧ ce_dig (x s) = true
  · rw [if_pos h1, if_pos h1.1]
    obtain ⟨c1, c2, -, -⟩ := ce_end_b (p := fun k => !ce_dig (x k)) b2
    have hxs := hx s
    have c0 := cp_138L (L := L) (w := w) (I := I1) (J := J1) (c := x s) (lo := 48) (hi := 57) (by omega) (by decide) (by decide)
    rw [show (decide (48 ≤ x s) && decide (x s ≤ 57)) = ce_dig (x s) from rfl, h1.2] at c0
    rw [show (48 : Int64) = lN 48 from rfl, show (57 : Int64) = lN 57 from rfl, c0, cw_bi]
    refine cw_m (fun _ => cd_s157_8) ?_
    rw [if_neg (show ¬ cd_tf true = 0 by decide), g1]
    generalize hsk0 : nI (x s) = x3
    -- the end of the figures
    have fin : ∀ (I2 : Nat → Nat → Int32) (e : Nat), e = ce_de x n s → s ≤ e → e ≤ n → (∀ a k, ¬ ce_xN a k → I2 a k = I a k) → I2 100 24 = nI s → I2 100 20 = nI e → I2 100 23 = nI (ce_nm x s (e - s)) → I2 100 19 = I 100 19 → cw L w (if 2 < ((I2 100 20) - (I2 100 24)) then ((cd_ci (cd_c 153 [.ref 100, .int 2, .int (I2 100 24)] (cd_mm L w I2 J1))).bind fun q => cd_go 157 86 [.ref 100, .int (nI lo), .int hiI, .int x3] [.int q.1] q.2) else (cd_ci (cd_c 138 [.long ((I2 100 23).toInt64), .long (nI lo).toInt64, .long hiI.toInt64] (cd_mm L w I2 J1))).bind fun q => cd_go 157 80 [.ref 100, .int (nI lo), .int hiI, .int x3] [.int q.1] q.2) (fun v I1 J2 => J2 = J1 ∧ (∀ a k, ¬ ce_xN a k → I1 a k = I a k) ∧ match (if 2 < ce_de x n s - s then Except.error (2, s) else if lo ≤ ce_nm x s (ce_de x n s - s) ∧ ce_nm x s (ce_de x n s - s) < hi then Except.ok (ce_nm x s (ce_de x n s - s), s, ce_de x n s) else Except.error (2, s) : Except (Nat × Nat) (Nat × Nat × Nat)) with
        | .ok (u, s, e) => v = some (.int (nI 0)) ∧ I1 100 23 = nI u ∧ I1 100 24 = nI s ∧ I1 100 20 = nI e ∧ I1 100 19 = I 100 19
        | .error (f, p) => v = some (.int (nI f)) ∧ I1 100 19 = nI p) := by
      intro I2 e he hse hen f2 g24 g20 g23 g19
      rw [← he, g20, g24, pk_sub hse]
      have hnb := ce_nm_b (s := s) hx (e - s)
      by_cases h2 : 2 < e - s
      · rw [if_pos h2, if_pos (show (2 : Int32) < nI (e - s) from nI_lt (a := 2) h2 (by omega)), cp_153, cw_bi]
        refine cw_m (fun _ => cd_s157_86) ?_
        exact cw_ret ⟨rfl, fun a k h => (cd_up_k2 (by unfold ce_xN at h; omega)).trans (f2 a k h), rfl, cd_up_s⟩
      · rw [if_neg h2, if_neg (show ¬ (2 : Int32) < nI (e - s) from nI_nlt (b := e - s) (a := 2) (by omega) (by decide)), g23, cp_138w, hI]
        have e1 : (decide (nI lo ≤ nI (ce_nm x s (e - s))) && decide (nI (ce_nm x s (e - s)) ≤ zI ((hi : Int) - 1))) = decide (lo ≤ ce_nm x s (e - s) ∧ ce_nm x s (e - s) < hi) := by
          have e2 : (nI lo ≤ nI (ce_nm x s (e - s))) ↔ lo ≤ ce_nm x s (e - s) := nI_leI (by omega) (by omega)
          have e3 : (nI (ce_nm x s (e - s)) ≤ zI ((hi : Int) - 1)) ↔ ce_nm x s (e - s) < hi := by
            rw [← zI_n, zI_le (by omega) (by omega) (by omega) (by omega)]
            omega
          rw [decide_eq_decide.mpr e2, decide_eq_decide.mpr e3]
          by_cases q1 : lo ≤ ce_nm x s (e - s)
          · by_cases q2 : ce_nm x s (e - s) < hi
            · rw [decide_eq_true q1, decide_eq_true q2, decide_eq_true ⟨q1, q2⟩]; rfl
            · rw [decide_eq_false q2, Bool.and_false]; exact (decide_eq_false (fun h => q2 h.2)).symm
          · rw [decide_eq_false q1, Bool.false_and]; exact (decide_eq_false (fun h => q1 h.1)).symm
        rw [e1, cw_bi]
        refine cw_m (fun _ => cd_s157_80) ?_
        by_cases h3 : lo ≤ ce_nm x s (e - s) ∧ ce_nm x s (e - s) < hi
        · rw [if_pos h3, decide_eq_true h3, if_neg (show ¬ cd_tf true = 0 by decide)]
          exact cw_ret ⟨rfl, f2, rfl, g23, g24, g20, g19⟩
        · rw [if_neg h3, decide_eq_false h3, if_pos (show cd_tf false = 0 by decide), g24, cp_153, cw_bi]
          refine cw_m (fun _ => cd_s157_86) ?_
          exact cw_ret ⟨rfl, fun a k h => (cd_up_k2 (by unfold ce_xN at h; omega)).trans (f2 a k h), rfl, cd_up_s⟩
    refine cw_up (fun i (I2 : Nat → Nat → Int32) => cd_go 157 22 [.ref 100, .int (nI lo), .int hiI, .int x3] [] (cd_mm L w I2 J1)) (fun i I2 => s ≤ i ∧ ce_de x n s = ce_de x n i ∧ (∀ a k, ¬ ce_xN a k → I2 a k = I a k) ∧ I2 100 24 = nI s ∧ I2 100 20 = nI i ∧ I2 100 23 = nI (ce_nm x s (i - s)) ∧ I2 100 19 = I 100 19) n ?_ ?_ s _ b2 ⟨Nat.le_refl _, rfl, fun a k h => ?_, ?_, ?_, ?_, ?_⟩
    · intro I2 ⟨hse, ed, f2, g24, g20, g23, g19⟩
      have ht2 : I2 100 18 = nI n := (f2 _ _ (by unfold ce_xN; omega)).trans ht.1
      have e2 : ce_de x n n = n := ce_end_n _ _
      have fin := fin I2 n (ed.trans e2).symm hse (Nat.le_refl _) f2 g24 g20 g23 g19
      refine cw_m (fun _ => cd_s157_22) ?_
      rw [if_neg (by rw [g20, ht2]; exact nI_nlt (Nat.le_refl _) (by omega))]
      exact fin
    · intro i I2 hi ⟨hse, ed, f2, g24, g20, g23, g19⟩ K
      have ht2 : I2 100 18 = nI n := (f2 _ _ (by unfold ce_xN; omega)).trans ht.1
      have ht3 : I2 113 i = nI (x i) := (f2 _ _ (by unfold ce_xN; omega)).trans (ht.2 i hi)
      have hxi := hx i
      have c0 := cp_138L (L := L) (w := w) (I := I2) (J := J1) (c := x i) (lo := 48) (hi := 57) (by omega) (by decide) (by decide)
      rw [show (decide (48 ≤ x i) && decide (x i ≤ 57)) = ce_dig (x i) from rfl] at c0
      have e2 : ce_de x n i = if !ce_dig (x i) then i else ce_de x n (i + 1) := ce_end_st hi
      refine cw_m (fun _ => cd_s157_22) ?_
      rw [if_pos (by rw [g20, ht2]; exact nI_lt hi (by omega)), if_pos (by rw [g20]; exact cd_inN (by omega) (by decide)), show I2 113 (I2 100 20).toNatClampNeg = nI (x i) by rw [g20, nI_clamp (by omega), ht3], show (48 : Int64) = lN 48 from rfl, show (57 : Int64) = lN 57 from rfl, c0, cw_bi]
      refine cw_m (fun _ => cd_s157_36) ?_
      cases hd : ce_dig (x i) with
      | false =>
        rw [hd] at e2
        rw [if_pos (show cd_tf false = 0 by decide)]
        exact fin I2 i (ed.trans e2).symm hse (by omega) f2 g24 g20 g23 g19
      | true =>
        rw [hd] at e2
        replace e2 : ce_de x n i = ce_de x n (i + 1) := e2
        have hd2 := hd
        unfold ce_dig at hd2
        rw [Bool.and_eq_true, decide_eq_true_eq, decide_eq_true_eq] at hd2
        rw [if_neg (show ¬ cd_tf true = 0 by decide)]
        have hnb := ce_nm_b (s := s) hx (i - s)
        have hnm : ce_nm x s (i + 1 - s) = if 1000 < ce_nm x s (i - s) then ce_nm x s (i - s) else 10 * ce_nm x s (i - s) + x i - 48 := by
          rw [show i + 1 - s = (i - s) + 1 by omega]
          show (if 1000 < ce_nm x s (i - s) then ce_nm x s (i - s) else 10 * ce_nm x s (i - s) + x (s + (i - s)) - 48) = _
          rw [show s + (i - s) = i by omega]
        have nx : ∀ u, u = ce_nm x s (i + 1 - s) → cw L w (cd_go 157 22 [.ref 100, .int (nI lo), .int hiI, .int x3] [] (cd_mm L w (cd_up (cd_up I2 100 23 (nI u)) 100 20 (nI (i + 1))) J1)) _ := fun u hu => K _ ⟨by omega, ed.trans e2, fun a k h => by rw [cd_up_k2 (by unfold ce_xN at h; omega), cd_up_k2 (by unfold ce_xN at h; omega)]; exact f2 a k h, by rw [cd_up_k (by decide), cd_up_k (by decide)]; exact g24, cd_up_s, by rw [cd_up_k (by decide), cd_up_s, hu], by rw [cd_up_k (by decide), cd_up_k (by decide)]; exact g19⟩
        by_cases hb : 1000 < ce_nm x s (i - s)
        · rw [if_pos hb] at hnm
          rw [if_pos (show (1000 : Int32) < I2 100 23 by rw [g23]; exact nI_lt (a := 1000) hb (by omega))]
          have nx := nx _ hnm.symm
          rw [cd_up_k (show (20 : Nat) ≠ 23 by decide), g20, g23, nI_1]
          exact nx
        · rw [if_neg hb] at hnm
          rw [if_neg (show ¬ (1000 : Int32) < I2 100 23 by rw [g23]; exact nI_nlt (b := ce_nm x s (i - s)) (a := 1000) (by omega) (by decide)), if_pos (by rw [g20]; exact cd_inN (by omega) (by decide))]
          have nx := nx _ hnm.symm
          rw [cd_up_k (show (20 : Nat) ≠ 23 by decide), g20, g23, nI_clamp (by omega), ht3, nI_1, show (10 : Int32) = nI 10 from rfl, pk_mul, nI_add, show (48 : Int32) = nI 48 from rfl, pk_sub (by omega)]
          exact nx
    · rw [cd_up_k2 (by unfold ce_xN at h; omega), cd_up_k2 (by unfold ce_xN at h; omega)]; exact hf1 a k h
    · rw [cd_up_k (by decide)]; exact cd_up_s
    · rw [cd_up_k (by decide), cd_up_k (by decide)]; exact g1
    · rw [Nat.sub_self]; exact cd_up_s
    · rw [cd_up_k (by decide), cd_up_k (by decide)]; exact g19
  · rw [if_neg h1]
    have hc : cd_c 138 [.long (if s < n then nI (x s) else -1 : Int32).toInt64, .long 48, .long 57] (cd_mm L w I1 J1) = some (some (.int (cd_tf false)), cd_mm L w I1 J1) := by
      by_cases hsn : s < n
      · have hxs := hx s
        rw [if_pos hsn, show (48 : Int64) = lN 48 from rfl, show (57 : Int64) = lN 57 from rfl, cp_138L (by omega) (by decide) (by decide)]
        have : ce_dig (x s) = false := by
          cases hd : ce_dig (x s) with
          | false => rfl
          | true => exact absurd ⟨hsn, hd⟩ h1
        rw [show (decide (48 ≤ x s) && decide (x s ≤ 57)) = ce_dig (x s) from rfl, this]
      · rw [if_neg hsn, cp_138]
        rfl
    rw [hc, cw_bi]
    refine cw_m (fun _ => cd_s157_8) ?_
    rw [if_pos (show cd_tf false = 0 by decide), g1, cp_153, cw_bi]
    refine cw_m (fun _ => cd_s157_14) ?_
    exact cw_ret ⟨rfl, fun a k h => (cd_up_k2 (by unfold ce_xN at h; omega)).trans (hf1 a k h), rfl, cd_up_s⟩
theorem cp_158 (hn : n ≤ 500) (hx : ∀ k, x k < 256) (ht : ce_txt x n I) (hq : q ≤ n) (h20 : I 100 20 = nI q) : cw L w (cd_c 158 [.ref 100] (cd_mm L w I J)) (fun v I1 J1 => J1 = J ∧ (∀ a k, ¬ ce_xN a k → I1 a k = I a k) ∧ match ce_stop x n q with
    | .ok e => v = some (.int (nI 0)) ∧ I1 100 20 = nI e ∧ I1 100 19 = I 100 19
    | .error (f, p) => v = some (.int (nI f)) ∧ I1 100 19 = nI p) := by
  obtain ⟨b1, b2, -, -⟩ := ce_end_b (p := fun k => !decide (x k = 32)) hq
  replace b1 : q ≤ ce_sk x n q := b1
  replace b2 : ce_sk x n q ≤ n := b2
  refine cw_c (l := [_]) rfl rfl ?_
  refine cw_m (fun _ => cd_s158_0) ?_
  refine cw_ci (cw_mono (cp_152 hn hx ht hq h20) ?_)
  intro v I1 J1 ⟨hv, hJ, f1, g1⟩
  subst hv hJ
  refine ⟨_, rfl, ?_⟩
  unfold ce_stop
  generalize ce_sk x n q = s at *
  have g19 : I1 100 19 = I 100 19 := f1 _ _ (by omega)
  have hf1 : ∀ a k, ¬ ce_xN a k → I1 a k = I a k := fun a k h => f1 a k (by unfold ce_xN at h; omega)
  refine cw_m (fun _ => cd_s158_2) ?_
  by_cases h1 : s < n ∧ x s = 59
  · rw [if_pos h1, if_pos h1.1, if_pos (by rw [h1.2]; rfl), g1, nI_1]
    exact cw_ret ⟨rfl, fun a k h => (cd_up_k2 (by unfold ce_xN at h; omega)).trans (hf1 a k h), rfl, cd_up_s, (cd_up_k (by decide)).trans g19⟩
  · have hne : ¬ (if s < n then nI (x s) else -1 : Int32) = 59 := by
      by_cases hsn : s < n
      · have hxs := hx s
        rw [if_pos hsn]
        exact fun q => h1 ⟨hsn, (nI_eq (a := x s) (b := 59) (by omega) (by decide)).mp q⟩
      · rw [if_neg hsn]; decide
    rw [if_neg h1, if_neg hne, g1, cp_153, cw_bi]
    refine cw_m (fun _ => cd_s158_9) ?_
    exact cw_ret ⟨rfl, fun a k h => (cd_up_k2 (by unfold ce_xN at h; omega)).trans (hf1 a k h), rfl, cd_up_s⟩
end CFE
