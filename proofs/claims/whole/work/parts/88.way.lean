/-! ===== the class: where a thing slides ===== -/
theorem cf_any_last {p : Nat → Bool} : ∀ n, ce_any p n = (cd_last p n).isSome := by
  intro n
  induction n with
  | zero => rfl
  | succ n ih =>
    rw [ce_any_s, ih]
    show _ = (if p n then some n else cd_last p n).isSome
    cases p n with
    | true => rw [Bool.or_true]; rfl
    | false => rw [Bool.or_false]; rfl
theorem cf_tk_th {D : cd_D} {S : cd_S} (c : Nat) : cf_tk S (D 0 0) c = (cd_thAt D S c).isSome := by
  unfold cf_tk cd_thAt
  rw [← cf_any_last]
  refine ce_any_cong _ (fun k _ => ?_)
  cases h : Nat.beq (S 1 k) c with
  | true => exact decide_eq_true (Nat.eq_of_beq_eq_true h)
  | false => exact decide_eq_false (fun q => by rw [q, Nat.beq_refl] at h; cases h)
section CFY
variable {L : Nat} {w : Bool} {I : Nat → Nat → Int32} {J : Nat → Nat → Int64} {D : cd_D} {S : cd_S}
variable {p s z : Nat}
theorem cf_pull_b (hD : cd_okD D) (q t : Nat) : -20736 ≤ ce_pull D S (ce_draw D S q) t ∧ ce_pull D S (ce_draw D S q) t ≤ 20736 := by
  have h12 := hD.1.2.2.1
  have := ce_sum_b (f := fun k => if cd_held S k && Nat.beq (D 12 k) t then ce_draw D S q k else 0) (b := 1728) (D 0 2) (fun k _ => by
    have := ce_draw_b (S := S) hD q k
    split <;> omega)
  have h2 : ((D 0 2 : Nat) : Int) * 1728 ≤ 20736 := by omega
  unfold ce_pull
  omega
theorem cp_62 (hD : cd_okD D) {t : Nat} (ht : t < D 0 0) (hG : cf_G D S (D 0 2) I) : cd_c 62 [.ref 5, .int (nI t)] (cd_mm L w I J) = some (some (.int (zI (ce_size D S t))), cd_mm L w I J) := by
  have h8 := hD.1.1
  obtain ⟨g1, g2, -⟩ := hG t ht
  replace g1 : I 18 t = zI (ce_pull D S (ce_draw D S 0) t) := g1
  replace g2 : I 19 t = zI (ce_pull D S (ce_draw D S 1) t) := g2
  have b1 := cf_pull_b (S := S) hD 0 t
  have b2 := cf_pull_b (S := S) hD 1 t
  have a1 := ce_abs_b (b := 20736) b1.1 b1.2
  have a2 := ce_abs_b (b := 20736) b2.1 b2.2
  refine cd_c_of (l := [_, _]) rfl rfl (cd_s62_0 ?_)
  rw [if_pos (cd_inN (by omega) (by decide)), if_pos (cd_inN (by omega) (by decide)), nI_clamp (by omega), g1, g2, show (0 : Int32) = nI 0 from rfl, cw_mabs (by omega) (by omega), cw_mabs (by omega) (by omega), cf_maxI (by omega) (by omega)]
  rfl
theorem cp_78c (hp : p = 66 ∨ p = 83) (hs : s = 22 ∨ s = 45) (hD : cd_okD D) (hS : cd_okS D S) (hP : cf_P D p I J) (hQ : cf_S D S s I) {x3 : Int32} {r q : Nat} (hr : r < 8) (hq : q < 8) : cw L w (cd_go 78 60 [.ref 5, .ref p, .ref s, .int x3, .int (nI r), .int (nI q), .null] [] (cd_mm L w I J)) (fun v I1 J1 => v = some (.int (cd_oi (if cd_thAt D S (8 * r + q) = none then some (8 * r + q) else none))) ∧ I1 = I ∧ J1 = J) := by
  have h8 := hD.1.1
  refine cw_m (fun _ => cd_s78_60 hp hs) ?_
  have e : nI r * 8 + nI q = nI (8 * r + q) := by rw [show (8 : Int32) = nI 8 from rfl, pk_mul, nI_add, Nat.mul_comm]
  rw [if_neg (nI_pos (by omega)), if_pos (show nI r < 8 from nI_lt (b := 8) hr (by decide)), if_neg (nI_pos (by omega)), if_pos (show nI q < 8 from nI_lt (b := 8) hq (by decide)), hP.1.1, cp_24 (by rcases hs with h | h <;> omega) h8 hQ.2.1 hS.1, cw_bl, e]
  refine cw_m (fun _ => cd_s78_82 hp hs) ?_
  have := cf_bitL (cf_und_lt (cf_tk S (D 0 0))) (k := 8 * r + q) (by omega)
  rw [cf_und_tb (by omega), cf_tk_th] at this
  cases ht : cd_thAt D S (8 * r + q) with
  | none =>
    rw [if_pos (this.mpr (by rw [ht]; rfl)), if_pos rfl]
    exact cw_ret ⟨rfl, rfl, rfl⟩
  | some u =>
    rw [if_neg (fun h => by have := this.mp h; rw [ht] at this; cases this), if_neg (fun h => by cases h)]
    exact cw_ret ⟨rfl, rfl, rfl⟩
theorem cp_78 (hp : p = 66 ∨ p = 83) (hs : s = 22 ∨ s = 45) (hD : cd_okD D) (hS : cd_okS D S) (hP : cf_P D p I J) (hQ : cf_S D S s I) {t : Nat} (ht : t < D 0 0) (hG : cf_G D S (D 0 2) I) : cd_c 78 [.ref 5, .ref p, .ref s, .int (nI t)] (cd_mm L w I J) = some (some (.int (cd_oi (ce_slid D S t))), cd_mm L w I J) := by
  have h8 := hD.1.1
  obtain ⟨g1, g2, -⟩ := hG t ht
  replace g1 : I 18 t = zI (ce_pull D S (ce_draw D S 0) t) := g1
  replace g2 : I 19 t = zI (ce_pull D S (ce_draw D S 1) t) := g2
  have b1 := cf_pull_b (S := S) hD 0 t
  have b2 := cf_pull_b (S := S) hD 1 t
  have a1 := ce_abs_b (b := 20736) b1.1 b1.2
  have a2 := ce_abs_b (b := 20736) b2.1 b2.2
  have hat := hQ.2.1 t ht
  have h64 := hS.1 t ht
  have esl : ce_slid D S t = (ce_bes (S 1 t) (ce_way (ce_pull D S (ce_draw D S 0) t) (ce_pull D S (ce_draw D S 1) t))).bind fun c => if cd_thAt D S c = none then some c else none := rfl
  generalize ce_pull D S (ce_draw D S 0) t = a at *
  generalize ce_pull D S (ce_draw D S 1) t = b at *
  generalize hc : S 1 t = c at *
  have q8 : nI c / 8 = nI (c / 8) := by rw [show (8 : Int32) = nI 8 from rfl]; exact pk_div (by omega) (by decide) (by decide)
  have r8 : nI c - nI (c / 8) * 8 = nI (c % 8) := by rw [← q8, show (8 : Int32) = nI 8 from rfl]; exact pk_rem (by omega) (by decide) (by decide)
  have cell := fun (r q : Nat) hr hq => cp_78c (L := L) (w := w) (I := I) (J := J) (D := D) (S := S) hp hs hD hS hP hQ (x3 := nI t) (r := r) (q := q) hr hq
  have z0 : ∀ y : Int, -20736 ≤ y → y ≤ 20736 → ((zI y = 0) ↔ y = 0) := fun y h1 h2 => by rw [show (0 : Int32) = zI 0 from rfl]; exact zI_eq (by omega) (by omega) (by decide) (by decide)
  have zp : ∀ y : Int, -20736 ≤ y → y ≤ 20736 → ((0 < zI y) ↔ 0 < y) := fun y h1 h2 => by rw [show (0 : Int32) = zI 0 from rfl]; exact zI_lt (by decide) (by decide) (by omega) (by omega)
  have zl : (zI (ce_abs a) < zI (ce_abs b)) ↔ ce_abs a < ce_abs b := zI_lt (by omega) (by omega) (by omega) (by omega)
  have ab0 : ce_abs a = 0 ↔ a = 0 := by unfold ce_abs; split <;> omega
  have bb0 : ce_abs b = 0 ↔ b = 0 := by unfold ce_abs; split <;> omega
  -- the four ways
  have dn : ce_way a b = 1 → cw L w (cd_go 78 60 [.ref 5, .ref p, .ref s, .int (nI t), .int (nI (c / 8) + 1), .int (nI (c % 8)), .null] [] (cd_mm L w I J)) (fun v I1 J1 => v = some (.int (cd_oi (ce_slid D S t))) ∧ I1 = I ∧ J1 = J) := fun hw => by
    rw [nI_1, esl, hw, show ce_bes c 1 = if c < 56 then some (c + 8) else none from rfl]
    by_cases h : c < 56
    · rw [if_pos h]
      have := cell (c / 8 + 1) (c % 8) (by omega) (by omega)
      rw [show 8 * (c / 8 + 1) + c % 8 = c + 8 by omega] at this
      exact this
    · rw [if_neg h, show c / 8 + 1 = 8 by omega]
      refine cw_m (fun _ => cd_s78_60 hp hs) ?_
      rw [if_neg (show ¬ nI 8 < 0 by decide), if_neg (show ¬ nI 8 < 8 by decide)]
      exact cw_ret ⟨rfl, rfl, rfl⟩
  have up : ce_way a b = 0 → cw L w (cd_go 78 60 [.ref 5, .ref p, .ref s, .int (nI t), .int (nI (c / 8) + (-1)), .int (nI (c % 8)), .null] [] (cd_mm L w I J)) (fun v I1 J1 => v = some (.int (cd_oi (ce_slid D S t))) ∧ I1 = I ∧ J1 = J) := fun hw => by
    rw [esl, hw, show ce_bes c 0 = if 8 ≤ c then some (c - 8) else none from rfl]
    by_cases h : 8 ≤ c
    · rw [if_pos h, show nI (c / 8) + (-1) = nI (c / 8 - 1) from cw_m1a (by omega)]
      have := cell (c / 8 - 1) (c % 8) (by omega) (by omega)
      rw [show 8 * (c / 8 - 1) + c % 8 = c - 8 by omega] at this
      exact this
    · rw [if_neg h, show c / 8 = 0 by omega]
      refine cw_m (fun _ => cd_s78_60 hp hs) ?_
      rw [if_pos (show nI 0 + (-1) < 0 by decide)]
      exact cw_ret ⟨rfl, rfl, rfl⟩
  have rt : ce_way a b = 3 → cw L w (cd_go 78 60 [.ref 5, .ref p, .ref s, .int (nI t), .int (nI (c / 8)), .int (nI (c % 8) + 1), .null] [] (cd_mm L w I J)) (fun v I1 J1 => v = some (.int (cd_oi (ce_slid D S t))) ∧ I1 = I ∧ J1 = J) := fun hw => by
    rw [nI_1, esl, hw, show ce_bes c 3 = if c % 8 < 7 then some (c + 1) else none from rfl]
    by_cases h : c % 8 < 7
    · rw [if_pos h]
      have := cell (c / 8) (c % 8 + 1) (by omega) (by omega)
      rw [show 8 * (c / 8) + (c % 8 + 1) = c + 1 by omega] at this
      exact this
    · rw [if_neg h, show c % 8 + 1 = 8 by omega]
      refine cw_m (fun _ => cd_s78_60 hp hs) ?_
      rw [if_neg (nI_pos (by omega)), if_pos (show nI (c / 8) < 8 from nI_lt (b := 8) (by omega) (by decide)), if_neg (show ¬ nI 8 < 0 by decide), if_neg (show ¬ nI 8 < 8 by decide)]
      exact cw_ret ⟨rfl, rfl, rfl⟩
  have lf : ce_way a b = 2 → cw L w (cd_go 78 60 [.ref 5, .ref p, .ref s, .int (nI t), .int (nI (c / 8)), .int (nI (c % 8) + (-1)), .null] [] (cd_mm L w I J)) (fun v I1 J1 => v = some (.int (cd_oi (ce_slid D S t))) ∧ I1 = I ∧ J1 = J) := fun hw => by
    rw [esl, hw, show ce_bes c 2 = if 0 < c % 8 then some (c - 1) else none from rfl]
    by_cases h : 0 < c % 8
    · rw [if_pos h, show nI (c % 8) + (-1) = nI (c % 8 - 1) from cw_m1a (by omega)]
      have := cell (c / 8) (c % 8 - 1) (by omega) (by omega)
      rw [show 8 * (c / 8) + (c % 8 - 1) = c - 1 by omega] at this
      exact this
    · rw [if_neg h, show c % 8 = 0 by omega]
      refine cw_m (fun _ => cd_s78_60 hp hs) ?_
      rw [if_neg (nI_pos (by omega)), if_pos (show nI (c / 8) < 8 from nI_lt (b := 8) (by omega) (by decide)), if_pos (show nI 0 + (-1) < 0 by decide)]
      exact cw_ret ⟨rfl, rfl, rfl⟩
  have hin : cd_in (nI t) 8 = true := cd_inN (by omega) (by decide)
  refine cw_eq (cw_c (l := [.ref 5, .ref p, .ref s, .int (nI t), .null, .null, .null]) (by rcases hp with rfl | rfl <;> rcases hs with rfl | rfl <;> rfl) (by rcases hp with rfl | rfl <;> rcases hs with rfl | rfl <;> rfl) ?_)
  refine cw_m (fun _ => cd_s78_0 hp hs) ?_
  have mabs : ∀ y : Int, -20736 ≤ y → y ≤ 20736 → (if 0 ≤ zI y then zI y else 0 - zI y) = zI (ce_abs y) := fun y h1 h2 => by rw [show (0 : Int32) = nI 0 from rfl]; exact cw_mabs (by omega) (by omega)
  simp only [hin, if_true, nI_clamp (show t < 2 ^ 31 by omega), g1, g2, hat, r8, q8, mabs a b1.1 b1.2, mabs b b2.1 b2.2]
  by_cases ha : a = 0
  · rw [if_pos ((z0 a b1.1 b1.2).mpr ha)]
    by_cases hb : b = 0
    · rw [if_pos ((z0 b b2.1 b2.2).mpr hb)]
      exact dn (by subst ha hb; rfl)
    · rw [if_neg (fun h => hb ((z0 b b2.1 b2.2).mp h)), if_pos (zl.mpr (by omega))]
      by_cases hbp : 0 < b
      · rw [if_pos ((zp b b2.1 b2.2).mpr hbp)]
        exact rt (by unfold ce_way; rw [if_pos (by omega), if_neg (by omega)])
      · rw [if_neg (fun h => hbp ((zp b b2.1 b2.2).mp h))]
        exact lf (by unfold ce_way; rw [if_pos (by omega), if_pos (by omega)])
  · rw [if_neg (fun h => ha ((z0 a b1.1 b1.2).mp h))]
    by_cases hl : ce_abs a < ce_abs b
    · rw [if_pos (zl.mpr hl)]
      by_cases hbp : 0 < b
      · rw [if_pos ((zp b b2.1 b2.2).mpr hbp)]
        exact rt (by unfold ce_way; rw [if_pos hl, if_neg (by omega)])
      · rw [if_neg (fun h => hbp ((zp b b2.1 b2.2).mp h))]
        exact lf (by unfold ce_way; rw [if_pos hl, if_pos (by omega)])
    · rw [if_neg (fun h => hl (zl.mp h))]
      by_cases hap : 0 < a
      · rw [if_pos ((zp a b1.1 b1.2).mpr hap)]
        exact dn (by unfold ce_way; rw [if_neg hl, if_neg (by omega)])
      · rw [if_neg (fun h => hap ((zp a b1.1 b1.2).mp h))]
        exact up (by unfold ce_way; rw [if_neg hl, if_pos (by omega)])
end CFY
