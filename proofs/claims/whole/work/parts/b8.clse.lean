/-! ===== the class: a cloth told; a hold ===== -/
section CHG
variable {L : Nat} {w : Bool} {I : Nat → Nat → Int32} {J : Nat → Nat → Int64} {D : cd_D} {S : cd_S}
variable {x : Nat → Nat} {n q p g : Nat}
theorem cp_27x (hp : p = 66 ∨ p = 83) (hK : cf_K x n q I) (hP : cf_PB D S p I J) (h3 : D 0 1 = 3) {s : Nat} : cw L w (cd_c 27 [.ref p, .ref 3, .int (nI s)] (cd_mm L w I J)) (cf_pq x n p I J (.error (4, s))) := by
  refine cw_c (l := [.ref p, .ref 3, .int (nI s), .null]) (by rcases hp with rfl | rfl <;> rfl) (by rcases hp with rfl | rfl <;> rfl) ?_
  refine cw_m (fun _ => cd_s27_0 hp) ?_
  rw [hP.1.1.2.1, h3, if_neg (show ¬ nI 3 < 3 by decide), show (4 : Int32) = nI 4 from rfl, cp_22 hK.2.1.1, cw_bv]
  refine cw_m (fun _ => cd_s27_10 hp) ?_
  exact cw_ret ⟨rfl, fun a k h1 h2 => by rw [cd_up_k2 (by omega), cd_up_k2 (by omega)], fun _ _ _ => rfl, cf_bl (by decide) (by decide)⟩
theorem cp_27 (hn : n ≤ 500) (hx : ∀ k, x k < 256) (hp : p = 66 ∨ p = 83) (hK : cf_K x n q I) (hq : q ≤ n) (hP : cf_PB D S p I J) (h3 : D 0 1 < 3) {s : Nat} : cw L w (cd_c 27 [.ref p, .ref 3, .int (nI s)] (cd_mm L w I J)) (cf_pq x n p I J (ce_pC x n q D S)) := by
  refine cw_c (l := [.ref p, .ref 3, .int (nI s), .null]) (by rcases hp with rfl | rfl <;> rfl) (by rcases hp with rfl | rfl <;> rfl) ?_
  refine cw_m (fun _ => cd_s27_0 hp) ?_
  have hin : cd_in (nI (D 0 1)) 3 = true := cd_inN (by omega) (by decide)
  rw [hP.1.1.2.1, if_pos (show nI (D 0 1) < 3 from nI_lt (b := 3) h3 (by decide))]
  have e0 : ce_pC x n q D S = ce_bd (ce_num x n 0 64 q) fun c => ce_bd (ce_num x n 1 9 c.2.2) fun a => ce_bd (ce_num x n 1 9 a.2.2) fun d => if 8 < c.1 / 8 + a.1 ∨ 8 < c.1 % 8 + d.1 then .error (5, d.2.1) else ce_bd (ce_num x n 1 10 d.2.2) fun g => ce_bd (ce_num x n 1 10 g.2.2) fun l => .ok (l.2.2, ce_aC D c.1 a.1 d.1 g.1 l.1, S) := rfl
  rw [e0]
  refine cp_23 hn hx hK hq (lo := 0) (hi := 64) (by decide) (by decide) rfl rfl ?_ ?_
  · intro I1 c s1 q1 r1 f1 K1 _
    obtain ⟨_, c64, _, hq1n, _⟩ := ce_num_b hq r1
    rw [r1]
    show cw L w _ (cf_pq x n p I J (ce_bd (ce_num x n 1 9 q1) fun a => ce_bd (ce_num x n 1 9 a.2.2) fun d => if 8 < c / 8 + a.1 ∨ 8 < c % 8 + d.1 then .error (5, d.2.1) else ce_bd (ce_num x n 1 10 d.2.2) fun g => ce_bd (ce_num x n 1 10 g.2.2) fun l => .ok (l.2.2, ce_aC D c a.1 d.1 g.1 l.1, S)))
    refine cw_m (fun _ => cd_s27_18 hp) ?_
    rw [if_pos hin, nI_clamp (by omega)]
    have f1u := f1.up (p + 5) (D 0 1) (nI c)
    refine cp_23 hn hx (K1.up (a := p + 5) (by omega)) hq1n (lo := 1) (hi := 9) (by decide) (by decide) rfl rfl ?_ ?_
    · intro I2 a s2 q2 r2 f2 K2 _
      obtain ⟨a1, a9, _, hq2n, _⟩ := ce_num_b hq1n r2
      rw [r2]
      show cw L w _ (cf_pq x n p I J (ce_bd (ce_num x n 1 9 q2) fun d => if 8 < c / 8 + a ∨ 8 < c % 8 + d.1 then .error (5, d.2.1) else ce_bd (ce_num x n 1 10 d.2.2) fun g => ce_bd (ce_num x n 1 10 g.2.2) fun l => .ok (l.2.2, ce_aC D c a d.1 g.1 l.1, S)))
      refine cw_m (fun _ => cd_s27_26 hp) ?_
      rw [if_pos hin, nI_clamp (by omega)]
      have f2u := (f1u.tr f2).up (p + 6) (D 0 1) (nI a)
      refine cp_23 hn hx (K2.up (a := p + 6) (by omega)) hq2n (lo := 1) (hi := 9) (by decide) (by decide) rfl rfl ?_ ?_
      · intro I3 d s3 q3 r3 f3 K3 g6
        obtain ⟨d1, d9, _, hq3n, _⟩ := ce_num_b hq2n r3
        rw [r3]
        show cw L w _ (cf_pq x n p I J (if 8 < c / 8 + a ∨ 8 < c % 8 + d then .error (5, s3) else ce_bd (ce_num x n 1 10 q3) fun g => ce_bd (ce_num x n 1 10 g.2.2) fun l => .ok (l.2.2, ce_aC D c a d g.1 l.1, S)))
        refine cw_m (fun _ => cd_s27_34 hp) ?_
        have f3u := (f2u.tr f3).up (p + 7) (D 0 1) (nI d)
        rw [if_pos hin, if_pos hin, if_pos hin, nI_clamp (by omega)]
        have y5 : cd_up I3 (p + 7) (D 0 1) (nI d) (p + 5) (D 0 1) = nI c := by rw [f3u _ _ (by omega), cd_up_a (by omega), cd_up_a (by omega), cd_up_s]
        have y6 : cd_up I3 (p + 7) (D 0 1) (nI d) (p + 6) (D 0 1) = nI a := by rw [f3u _ _ (by omega), cd_up_a (by omega), cd_up_s]
        have y7 : cd_up I3 (p + 7) (D 0 1) (nI d) (p + 7) (D 0 1) = nI d := cd_up_s
        have y36 : cd_up I3 (p + 7) (D 0 1) (nI d) 3 6 = nI s3 := (cd_up_a (by omega)).trans g6
        have K3u := K3.up (a := p + 7) (k := D 0 1) (v := nI d) (by omega)
        have q8 : nI c / 8 = nI (c / 8) := by rw [show (8 : Int32) = nI 8 from rfl]; exact pk_div (by omega) (by decide) (by decide)
        have rm8 : nI c - nI (c / 8) * 8 = nI (c % 8) := by rw [← q8, show (8 : Int32) = nI 8 from rfl]; exact pk_rem (by omega) (by decide) (by decide)
        rw [y5, y6, y7, y36, q8, rm8, nI_add, nI_add]
        generalize hI4 : cd_up I3 (p + 7) (D 0 1) (nI d) = I4 at *
        have fp4 : cf_fp p I I4 := fun b k h1 h2 => by rw [f3u b k h1, cd_up_a (by omega), cd_up_a (by omega), cd_up_a (by omega)]
        have out : (8 < c / 8 + a ∨ 8 < c % 8 + d) → cw L w ((cd_cv (cd_c 22 [.ref 3, .int 5, .int (nI s3)] (cd_mm L w I4 J))).bind fun m => cd_go 27 66 [.ref p, .ref 3, .int (nI s), .int (nI (D 0 1))] [] m) (cf_pq x n p I J (if 8 < c / 8 + a ∨ 8 < c % 8 + d then .error (5, s3) else ce_bd (ce_num x n 1 10 q3) fun g => ce_bd (ce_num x n 1 10 g.2.2) fun l => .ok (l.2.2, ce_aC D c a d g.1 l.1, S))) := fun hbad => by
          rw [if_pos hbad, show (5 : Int32) = nI 5 from rfl, cp_22 K3u.2.1.1, cw_bv]
          refine cw_m (fun _ => cd_s27_66 hp) ?_
          exact cw_ret ⟨rfl, fun b k h1 h2 => by rw [cd_up_k2 (by omega), cd_up_k2 (by omega), fp4 b k h1 h2], fun _ _ _ => rfl, cf_bl (by decide) (by decide)⟩
        refine cw_if (fun h => ?_) (fun h => ?_)
        · exact out (Or.inl ((nI_ltI (a := 8) (by decide) (by omega)).mp h))
        have g1 : c / 8 + a ≤ 8 := Nat.le_of_not_lt (fun q => h (nI_lt (a := 8) q (by omega)))
        rw [if_pos hin, if_pos hin]
        refine cw_if (fun h => ?_) (fun h => ?_)
        · exact out (Or.inr ((nI_ltI (a := 8) (by decide) (by omega)).mp h))
        have g2 : c % 8 + d ≤ 8 := Nat.le_of_not_lt (fun q => h (nI_lt (a := 8) q (by omega)))
        rw [if_neg (show ¬ (8 < c / 8 + a ∨ 8 < c % 8 + d) by omega)]
        refine cw_cv (cw_mono (cp_26 hp h3 c64 (by omega) (by omega) y5 y6 y7) ?_)
        intro v I5 J5 ⟨hv, hI5, fJ5, gJ5⟩
        subst hI5
        refine ⟨hv, ?_⟩
        have jok : ∀ b j, b ≠ p + 10 → J5 b j = J b j := fun b j h => fJ5 b j (by omega)
        refine cw_m (fun _ => cd_s27_70 hp) ?_
        refine cp_23 hn hx K3u hq3n (lo := 1) (hi := 10) (by decide) (by decide) rfl rfl ?_ ?_
        · intro I6 e s4 q4 r4 f6 K6 _
          obtain ⟨_, _, _, hq4n, _⟩ := ce_num_b hq3n r4
          rw [r4]
          show cw L w _ (cf_pq x n p I J (ce_bd (ce_num x n 1 10 q4) fun l => .ok (l.2.2, ce_aC D c a d e l.1, S)))
          refine cw_m (fun _ => cd_s27_77 hp) ?_
          rw [if_pos hin, nI_clamp (by omega)]
          have f6u := (f3u.tr f6).up (p + 8) (D 0 1) (nI e)
          refine cp_23 hn hx (K6.up (a := p + 8) (by omega)) hq4n (lo := 1) (hi := 10) (by decide) (by decide) rfl rfl ?_ ?_
          · intro I7 l s5 q5 r5 f7 K7 _
            rw [r5]
            refine cw_m (fun _ => cd_s27_85 hp) ?_
            have f7u := (f6u.tr f7).up (p + 9) (D 0 1) (nI l)
            have e1 : cd_up I7 (p + 9) (D 0 1) (nI l) p 1 = nI (D 0 1) := by
              rw [f7u p 1 (by omega), cd_up_a (by omega), cd_up_a (by omega), cd_up_a (by omega), cd_up_a (by omega), cd_up_a (by omega)]
              exact hP.1.1.2.1
            rw [if_pos hin, nI_clamp (by omega), e1, nI_1]
            have f8u := f7u.up p 1 (nI (D 0 1 + 1))
            refine cw_ret ⟨rfl, fun b k h1 h2 => ?_, jok, (K7.up (by omega)).up (by omega), (cf_PB_C hp hP rfl fJ5 (gJ5 g1 g2)).of3 hp f8u⟩
            rw [f8u b k h1, cd_up_a (by omega), cd_up_a (by omega), cd_up_a (by omega), cd_up_a (by omega), cd_up_a (by omega), cd_up_a (by omega)]
          · intro I7 f p5 r5 f7 F7
            rw [r5]
            refine cw_m (fun _ => cd_s27_85 hp) ?_
            rw [if_pos hin, nI_clamp (by omega)]
            exact cw_ret ⟨rfl, fun b k h1 h2 => by rw [cd_up_a (by omega), cd_up_a (by omega), (f6u.tr f7) b k h1, cd_up_a (by omega), cd_up_a (by omega), cd_up_a (by omega), cd_up_a (by omega)], jok, (F7.up (by omega)).up (by omega)⟩
        · intro I6 f p4 r4 f6 F6
          rw [r4]
          refine cw_m (fun _ => cd_s27_77 hp) ?_
          have F7 := F6.up (a := p + 8) (k := D 0 1) (v := nI 1) (by omega)
          rw [if_pos hin, nI_clamp (by omega), cp_23f F7, cw_bi]
          refine cw_m (fun _ => cd_s27_85 hp) ?_
          rw [if_pos hin, nI_clamp (by omega)]
          exact cw_ret ⟨rfl, fun b k h1 h2 => by rw [cd_up_a (by omega), cd_up_a (by omega), cd_up_a (by omega), f6 b k h1, fp4 b k h1 h2], jok, (F7.up (by omega)).up (by omega)⟩
      · intro I3 f p3 r3 f3 F3
        rw [r3]
        refine cf_pe_q (fun b k h1 h2 => by rw [(f2u.tr f3) b k h1, cd_up_a (by omega), cd_up_a (by omega)]) (fun _ _ _ => rfl) rfl (cp_27t3 (c := c) (a := a) (d := 1) hp h3 c64 (by omega) (by decide) F3 ?_ ?_)
        · rw [(f2u.tr f3) _ _ (by omega), cd_up_a (by omega), cd_up_s]
        · rw [(f2u.tr f3) _ _ (by omega), cd_up_s]
    · intro I2 f p2 r2 f2 F2
      rw [r2]
      refine cf_pe_q (fun b k h1 h2 => by rw [(f1u.tr f2) b k h1, cd_up_a (by omega)]) (fun _ _ _ => rfl) rfl (cp_27t2 (c := c) (a := 1) hp h3 c64 (by decide) F2 ?_)
      rw [(f1u.tr f2) _ _ (by omega), cd_up_s]
  · intro I1 f p1 r1 f1 F1
    rw [r1]
    exact cf_pe_q (fun b k h1 h2 => f1 b k h1) (fun _ _ _ => rfl) rfl (cp_27t1 (c := 0) hp h3 (by decide) F1)
theorem cp_28 (hp : p = 66 ∨ p = 83) (h2 : I p 2 = nI (D 0 2)) (h12 : D 0 2 ≤ 12) (hr : ∀ k, k < D 0 2 → (I (p + 11) k = nI (D 11 k) ∧ I (p + 12) k = nI (D 12 k)) ∧ D 11 k < 100 ∧ D 12 k < 100) {c t : Nat} (hc : c < 100) (ht : t < 100) : cd_c 28 [.ref p, .int (nI c), .int (nI t)] (cd_mm L w I J) = some (some (.int (cd_tf (ce_pai D c t))), cd_mm L w I J) := by
  refine cw_eq (cw_c (l := [.ref p, .int (nI c), .int (nI t), .null]) (by rcases hp with rfl | rfl <;> rfl) (by rcases hp with rfl | rfl <;> rfl) ?_)
  refine cw_m (fun _ => cd_s28_0 hp) ?_
  refine cw_up (L := L) (w := w) (Q := fun v2 I2 J2 => v2 = some (.int (cd_tf (ce_pai D c t))) ∧ I2 = I ∧ J2 = J) (fun i (_ : Unit) => cd_go 28 2 [.ref p, .int (nI c), .int (nI t), .int (nI i)] [] (cd_mm L w I J)) (fun i _ => ce_any (fun k => decide (D 11 k = c) && decide (D 12 k = t)) i = false) (D 0 2) ?_ ?_ 0 () (Nat.zero_le _) rfl
  · intro _ hno
    refine cw_m (fun _ => cd_s28_2 hp) ?_
    rw [h2, if_neg (fun q => Int32.lt_irrefl q), show ce_pai D c t = false from hno]
    exact cw_ret ⟨rfl, rfl, rfl⟩
  · intro i _ hi hno K
    obtain ⟨⟨r1, r2⟩, r3, r4⟩ := hr i hi
    have hin : cd_in (nI i) 12 = true := cd_inN (by omega) (by decide)
    refine cw_m (fun _ => cd_s28_2 hp) ?_
    rw [h2, if_pos (nI_lt hi (by omega)), if_pos hin, if_pos hin, nI_clamp (by omega), r1, r2, nI_1]
    by_cases he : D 11 i = c
    · rw [if_pos (by rw [he])]
      by_cases he2 : D 12 i = t
      · rw [if_pos (by rw [he2]), show ce_pai D c t = true from ce_any_t.mpr ⟨i, hi, by rw [decide_eq_true he, decide_eq_true he2]; rfl⟩]
        exact cw_ret ⟨rfl, rfl, rfl⟩
      · rw [if_neg (fun q => he2 ((nI_eq (by omega) (by omega)).mp q))]
        refine K () ?_
        rw [ce_any_s, hno, decide_eq_false he2, Bool.and_false]
        rfl
    · rw [if_neg (fun q => he ((nI_eq (by omega) (by omega)).mp q))]
      refine K () ?_
      rw [ce_any_s, hno, decide_eq_false he, Bool.false_and]
      rfl
end CHG
