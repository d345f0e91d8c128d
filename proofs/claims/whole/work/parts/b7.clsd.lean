/-! ===== the class: a light, a bar, a cloth ===== -/
section CHF
variable {L : Nat} {w : Bool} {I : Nat → Nat → Int32} {J : Nat → Nat → Int64} {D : cd_D} {S : cd_S}
variable {x : Nat → Nat} {n q p g : Nat}
theorem cf_PB_up (hp : p = 66 ∨ p = 83) (h : cf_PB D S p I J) {k : Nat} {v : Int32} (hk : k = 3 ∨ k = 16 ∨ k = 17 ∨ k = 18) {D1 : cd_D} (hD : ∀ a j, ¬ (a = 0 ∧ j = k) → D1 a j = D a j) (hv : v = nI (D1 0 k)) : cf_PB D1 S p (cd_up I p k v) J := by
  obtain ⟨⟨⟨a1, a2, a3, a4, a5⟩, hb, hc, hd⟩, ⟨⟨s1, s2⟩, s3, s4⟩, b3, b18⟩ := h
  have d0 : ∀ j, j = 0 ∨ j = 1 ∨ j = 2 → D1 0 j = D 0 j := fun j hj => hD 0 j (by omega)
  have dr : ∀ a, 1 ≤ a → ∀ j, D1 a j = D a j := fun a ha j => hD a j (by omega)
  have un : ∀ j, cd_und D1 j = cd_und D j := fun j => funext fun c => by
    unfold cd_und
    rw [dr 5 (by decide), dr 6 (by decide), dr 7 (by decide)]
  have xo : ∀ a j, a ≠ p → cd_up I p k v a j = I a j := fun a j h => cd_up_a h
  have x0 : ∀ j, j ≠ k → cd_up I p k v p j = I p j := fun j h => cd_up_k h
  have xk : cd_up I p k v p k = nI (D1 0 k) := by rw [cd_up_s, hv]
  have cell : ∀ j, I p j = nI (D 0 j) → cd_up I p k v p j = nI (D1 0 j) := fun j h => by
    by_cases hj : j = k
    · rw [hj]; exact xk
    · rw [x0 j hj, hD 0 j (by omega)]; exact h
  refine ⟨⟨⟨cell 0 a1, cell 1 a2, cell 2 a3, cell 16 a4, cell 17 a5⟩, fun t ht => ?_, fun j hj => ?_, fun j hj => ?_⟩, ⟨⟨(xo _ _ (by omega)).trans s1, (xo _ _ (by omega)).trans s2⟩, fun t ht => ?_, fun j hj => ?_⟩, cell 3 b3, cell 18 b18⟩
  · rw [d0 0 (by omega)] at ht
    rw [xo _ _ (by omega), xo _ _ (by omega), xo _ _ (by omega), xo _ _ (by omega), dr 1 (by decide), dr 2 (by decide), dr 3 (by decide), dr 4 (by decide)]
    exact hb t ht
  · rw [d0 1 (by omega)] at hj
    rw [xo _ _ (by omega), xo _ _ (by omega), xo _ _ (by omega), xo _ _ (by omega), xo _ _ (by omega), dr 5 (by decide), dr 6 (by decide), dr 7 (by decide), dr 8 (by decide), dr 9 (by decide), un]
    exact hc j hj
  · rw [d0 2 (by omega)] at hj
    rw [xo _ _ (by omega), xo _ _ (by omega), dr 11 (by decide), dr 12 (by decide)]
    exact hd j hj
  · rw [d0 0 (by omega)] at ht
    rw [xo _ _ (by omega)]
    exact s3 t ht
  · rw [d0 2 (by omega)] at hj
    rw [xo _ _ (by omega), xo _ _ (by omega)]
    exact s4 j hj
theorem cp_34e (hp : p = 66 ∨ p = 83) {f : Nat} (hF : cf_Fl f g I) {x2 : Int32} : cw L w (cd_go 34 7 [.ref p, .ref 3, .int x2] [] (cd_mm L w I J)) (cf_pe p f g I J) := by
  refine cw_m (fun _ => cd_s34_7 hp) ?_
  have F1 := hF.up (a := p) (k := 18) (v := 1) (by omega)
  rw [cp_23f F1, cw_bi]
  refine cw_m (fun _ => cd_s34_15 hp) ?_
  have F2 := F1.up (a := p) (k := 16) (v := 0) (by omega)
  rw [cp_23f F2, cw_bi]
  refine cw_m (fun _ => cd_s34_21 hp) ?_
  have F3 := F2.up (a := p) (k := 17) (v := 1) (by omega)
  exact cw_ret ⟨rfl, fun a k h1 h2 => by rw [cd_up_a (by omega), cd_up_a (by omega), cd_up_a (by omega)], fun _ _ _ => rfl, F3⟩
theorem cp_34x (hp : p = 66 ∨ p = 83) (hK : cf_K x n q I) (hP : cf_PB D S p I J) (h18 : D 0 18 = 1) {s : Nat} : cw L w (cd_c 34 [.ref p, .ref 3, .int (nI s)] (cd_mm L w I J)) (cf_pq x n p I J (.error (3, s))) := by
  refine cw_c (l := [.ref p, .ref 3, .int (nI s)]) (by rcases hp with rfl | rfl <;> rfl) (by rcases hp with rfl | rfl <;> rfl) ?_
  refine cw_m (fun _ => cd_s34_0 hp) ?_
  rw [hP.2.2.2, h18, if_neg (show ¬ nI 1 = 0 by decide), show (3 : Int32) = nI 3 from rfl, cp_22 hK.2.1.1, cw_bv]
  exact cf_pe_q (fun a k h1 h2 => by rw [cd_up_k2 (by omega), cd_up_k2 (by omega)]) (fun _ _ _ => rfl) rfl (cp_34e hp (cf_bl (by decide) (by decide)))
theorem cp_34 (hn : n ≤ 500) (hx : ∀ k, x k < 256) (hp : p = 66 ∨ p = 83) (hK : cf_K x n q I) (hq : q ≤ n) (hP : cf_PB D S p I J) (h18 : D 0 18 = 0) {s : Nat} : cw L w (cd_c 34 [.ref p, .ref 3, .int (nI s)] (cd_mm L w I J)) (cf_pq x n p I J (ce_pL x n q D S)) := by
  refine cw_c (l := [.ref p, .ref 3, .int (nI s)]) (by rcases hp with rfl | rfl <;> rfl) (by rcases hp with rfl | rfl <;> rfl) ?_
  refine cw_m (fun _ => cd_s34_0 hp) ?_
  rw [hP.2.2.2, h18, if_pos (show nI 0 = 0 from rfl)]
  refine cw_m (fun _ => cd_s34_7 hp) ?_
  have e0 : ce_pL x n q D S = ce_bd (ce_num x n 0 100 q) fun a => ce_bd (ce_num x n 1 21 a.2.2) fun b => .ok (b.2.2, ce_aL D a.1 b.1, S) := rfl
  rw [e0]
  have f1u := (cf_f3.rf (I := I)).up p 18 1
  refine cp_23 hn hx (hK.up (a := p) (by omega)) hq (lo := 0) (hi := 100) (by decide) (by decide) rfl rfl ?_ ?_
  · intro I1 u1 s1 q1 r1 f1 K1 _
    obtain ⟨_, _, _, hq1n, _⟩ := ce_num_b hq r1
    rw [r1]
    refine cw_m (fun _ => cd_s34_15 hp) ?_
    have f2u := f1.up p 16 (nI u1)
    show cw L w _ (cf_pq x n p I J (ce_bd (ce_num x n 1 21 q1) fun b => .ok (b.2.2, ce_aL D u1 b.1, S)))
    refine cp_23 hn hx (K1.up (a := p) (by omega)) hq1n (lo := 1) (hi := 21) (by decide) (by decide) rfl rfl ?_ ?_
    · intro I2 u2 s2 q2 r2 f2 K2 _
      rw [r2]
      refine cw_m (fun _ => cd_s34_21 hp) ?_
      have f3u := (f2u.tr f2).up p 17 (nI u2)
      have P1 := cf_PB_up (D1 := cd_up D 0 18 1) hp hP (k := 18) (v := 1) (by omega) (fun a j h => cd_up_k2 h) (by rw [cd_up_s]; rfl)
      have P2 := cf_PB_up (D1 := cd_up (cd_up D 0 18 1) 0 16 u1) hp P1 (k := 16) (v := nI u1) (by omega) (fun a j h => cd_up_k2 h) (by rw [cd_up_s])
      have P3 := cf_PB_up (D1 := cd_up (cd_up (cd_up D 0 18 1) 0 16 u1) 0 17 u2) hp P2 (k := 17) (v := nI u2) (by omega) (fun a j h => cd_up_k2 h) (by rw [cd_up_s])
      have eD : ce_aL D u1 u2 = cd_up (cd_up (cd_up D 0 18 1) 0 16 u1) 0 17 u2 := by
        funext a k
        show cd_up (cd_up (cd_up D 0 16 u1) 0 17 u2) 0 18 1 a k = _
        by_cases ha : a = 0
        · subst ha
          by_cases h18 : k = 18
          · subst h18
            rw [cd_up_s, cd_up_k (by decide), cd_up_k (by decide), cd_up_s]
          · by_cases h17 : k = 17
            · subst h17
              rw [cd_up_k (by decide), cd_up_s, cd_up_s]
            · by_cases h16 : k = 16
              · subst h16
                rw [cd_up_k (by decide), cd_up_k (by decide), cd_up_s, cd_up_k (by decide), cd_up_s]
              · rw [cd_up_k h18, cd_up_k h17, cd_up_k h16, cd_up_k h17, cd_up_k h16, cd_up_k h18]
        · rw [cd_up_a ha, cd_up_a ha, cd_up_a ha, cd_up_a ha, cd_up_a ha, cd_up_a ha]
      rw [← eD] at P3
      refine cw_ret ⟨rfl, fun a k h1 h2 => ?_, fun _ _ _ => rfl, K2.up (by omega), P3.of3 hp f3u⟩
      rw [f3u a k h1, cd_up_a (by omega), cd_up_a (by omega), cd_up_a (by omega)]
    · intro I2 f p2 r2 f2 F2
      rw [r2]
      refine cw_m (fun _ => cd_s34_21 hp) ?_
      exact cw_ret ⟨rfl, fun a k h1 h2 => by rw [cd_up_a (by omega), (f2u.tr f2) a k h1, cd_up_a (by omega), cd_up_a (by omega)], fun _ _ _ => rfl, F2.up (by omega)⟩
  · intro I1 f p1 r1 f1 F1
    rw [r1]
    refine cw_m (fun _ => cd_s34_15 hp) ?_
    have F2 := F1.up (a := p) (k := 16) (v := nI 0) (by omega)
    rw [cp_23f F2, cw_bi]
    refine cw_m (fun _ => cd_s34_21 hp) ?_
    exact cw_ret ⟨rfl, fun a k h1 h2 => by rw [cd_up_a (by omega), cd_up_a (by omega), f1 a k h1, cd_up_a (by omega)], fun _ _ _ => rfl, F2.up (by omega)⟩
theorem cp_35 (hp : p = 66 ∨ p = 83) (h2 : I p 2 = nI (D 0 2)) (h12 : D 0 2 ≤ 12) (hr : ∀ k, k < D 0 2 → I (p + 12) k = nI (D 12 k) ∧ D 12 k < 100) {t : Nat} (ht : t < 100) : cd_c 35 [.ref p, .int (nI t)] (cd_mm L w I J) = some (some (.int (cd_tf (ce_hon D t))), cd_mm L w I J) := by
  refine cw_eq (cw_c (l := [.ref p, .int (nI t), .null]) (by rcases hp with rfl | rfl <;> rfl) (by rcases hp with rfl | rfl <;> rfl) ?_)
  refine cw_m (fun _ => cd_s35_0 hp) ?_
  refine cw_up (L := L) (w := w) (Q := fun v2 I2 J2 => v2 = some (.int (cd_tf (ce_hon D t))) ∧ I2 = I ∧ J2 = J) (fun i (_ : Unit) => cd_go 35 2 [.ref p, .int (nI t), .int (nI i)] [] (cd_mm L w I J)) (fun i _ => ce_any (fun k => decide (D 12 k = t)) i = false) (D 0 2) ?_ ?_ 0 () (Nat.zero_le _) rfl
  · intro _ hno
    refine cw_m (fun _ => cd_s35_2 hp) ?_
    rw [h2, if_neg (fun q => Int32.lt_irrefl q), show ce_hon D t = false from hno]
    exact cw_ret ⟨rfl, rfl, rfl⟩
  · intro i _ hi hno K
    obtain ⟨r1, r2⟩ := hr i hi
    refine cw_m (fun _ => cd_s35_2 hp) ?_
    rw [h2, if_pos (nI_lt hi (by omega)), if_pos (cd_inN (by omega) (by decide)), nI_clamp (by omega), r1, nI_1]
    by_cases he : D 12 i = t
    · rw [if_pos (by rw [he]), show ce_hon D t = true from ce_any_t.mpr ⟨i, hi, decide_eq_true he⟩]
      exact cw_ret ⟨rfl, rfl, rfl⟩
    · rw [if_neg (fun q => he ((nI_eq (by omega) (by omega)).mp q))]
      refine K () ?_
      rw [ce_any_s, hno, decide_eq_false he]
      rfl
theorem cp_36 (hn : n ≤ 500) (hx : ∀ k, x k < 256) (hp : p = 66 ∨ p = 83) (hK : cf_K x n q I) (hq : q ≤ n) (hP : cf_PB D S p I J) (hO : ce_okP D S) : cw L w (cd_c 36 [.ref p, .ref 3] (cd_mm L w I J)) (cf_pq x n p I J (ce_pR x n q D S)) := by
  have h8 := hO.1.1.1
  have h12 := hO.1.1.2.2.1
  have h3 := hO.2.2.2.2.1
  refine cw_c (l := [.ref p, .ref 3, .null]) (by rcases hp with rfl | rfl <;> rfl) (by rcases hp with rfl | rfl <;> rfl) ?_
  refine cw_m (fun _ => cd_s36_0 hp) ?_
  have e0 : ce_pR x n q D S = ce_bd (ce_num x n 0 (D 0 0) q) fun t => if ce_hon D t.1 then .error (3, t.2.1) else .ok (t.2.2, cd_up D 0 3 (D 0 3 ||| 2 ^ t.1), S) := rfl
  rw [e0, hP.1.1.1]
  refine cp_23 hn hx hK hq (lo := 0) (hi := D 0 0) (by decide) (by omega) rfl (by
    rw [← zI_n (D 0 0), show (1 : Int32) = zI 1 from rfl, zI_sub]) ?_ ?_
  · intro I1 u1 s1 q1 r1 f1 K1 g6
    obtain ⟨_, u8, _, hq1n, _⟩ := ce_num_b hq r1
    rw [r1]
    show cw L w _ (cf_pq x n p I J (if ce_hon D u1 then .error (3, s1) else .ok (q1, cd_up D 0 3 (D 0 3 ||| 2 ^ u1), S)))
    refine cw_m (fun _ => cd_s36_7 hp) ?_
    have P1 := hP.of3 hp f1
    rw [K1.2.1.1, if_pos (show nI 0 = 0 from rfl), cp_35 hp P1.1.1.2.2.1 h12 (fun k hk => ⟨(P1.1.2.2.2 k hk).2, by have := (hO.1.2.2.2 k hk).2; omega⟩) (by omega), cw_bi]
    refine cw_m (fun _ => cd_s36_14 hp) ?_
    cases hh : ce_hon D u1 with
    | true =>
      rw [if_neg (show ¬ cd_tf true = 0 by decide), if_pos rfl, g6, show (3 : Int32) = nI 3 from rfl, cp_22 K1.2.1.1, cw_bv]
      refine cw_m (fun _ => cd_s36_20 hp) ?_
      exact cw_ret ⟨rfl, fun a k h1 h2 => by rw [cd_up_a (by omega), cd_up_k2 (by omega), cd_up_k2 (by omega), f1 a k h1], fun _ _ _ => rfl, (cf_bl (by decide) (by decide)).up (by omega)⟩
    | false =>
      rw [if_pos (show cd_tf false = 0 from rfl), if_neg (show ¬ false = true by decide)]
      refine cw_m (fun _ => cd_s36_20 hp) ?_
      rw [P1.2.2.1, show (1 : Int32) <<< (nI u1 &&& 31) = nI (2 ^ u1) from cw_sh1 (by omega), cw_or]
      exact cw_ret ⟨rfl, fun a k h1 h2 => by rw [cd_up_a (by omega), f1 a k h1], fun _ _ _ => rfl, K1.up (by omega), cf_PB_up hp P1 (by omega) (fun a j h => cd_up_k2 h) (by rw [cd_up_s])⟩
  · intro I1 f p1 r1 f1 F1
    rw [r1]
    refine cw_m (fun _ => cd_s36_7 hp) ?_
    rw [if_neg F1.ne]
    refine cw_m (fun _ => cd_s36_20 hp) ?_
    exact cw_ret ⟨rfl, fun a k h1 h2 => by rw [cd_up_a (by omega), f1 a k h1], fun _ _ _ => rfl, F1.up (by omega)⟩
/-- the cells under a cloth -/
def cf_sp (c d r i : Nat) : Bool := decide (c / 8 ≤ i / 8) && decide (i / 8 < c / 8 + r) && (decide (c % 8 ≤ i % 8) && decide (i % 8 < c % 8 + d))
theorem cf_line {c d r : Nat} (hc : c < 64) (hd : c % 8 + d ≤ 8) (hr : c / 8 + r < 8) : lN ((2 ^ d - 1) * 2 ^ c * 2 ^ (8 * r)) = lN (ce_msk (fun i => decide (i / 8 = c / 8 + r) && (decide (c % 8 ≤ i % 8) && decide (i % 8 < c % 8 + d))) 64) := by
  refine cf_mkm (fun i hi => ?_)
  rw [← Nat.shiftLeft_eq, Nat.testBit_shiftLeft, ← Nat.shiftLeft_eq, Nat.testBit_shiftLeft, Nat.testBit_two_pow_sub_one]
  rw [Bool.eq_iff_iff, Bool.and_eq_true, Bool.and_eq_true, Bool.and_eq_true, Bool.and_eq_true, decide_eq_true_eq, decide_eq_true_eq, decide_eq_true_eq, decide_eq_true_eq, decide_eq_true_eq, decide_eq_true_eq]
  omega
theorem cp_26 (hp : p = 66 ∨ p = 83) {k c a d : Nat} (hk : k < 3) (hc : c < 64) (ha : a ≤ 8) (hd : d ≤ 8) (h5 : I (p + 5) k = nI c) (h6 : I (p + 6) k = nI a) (h7 : I (p + 7) k = nI d) : cw L w (cd_c 26 [.ref p, .int (nI k)] (cd_mm L w I J)) (fun v I1 J1 => v = none ∧ I1 = I ∧ (∀ b j, ¬ (b = p + 10 ∧ j = k) → J1 b j = J b j) ∧ (c / 8 + a ≤ 8 → c % 8 + d ≤ 8 → J1 (p + 10) k = lN (ce_msk (cf_sp c d a) 64))) := by
  have hin : cd_in (nI k) 3 = true := cd_inN hk (by decide)
  refine cw_c (l := [.ref p, .int (nI k), .null, .null, .null]) (by rcases hp with rfl | rfl <;> rfl) (by rcases hp with rfl | rfl <;> rfl) ?_
  refine cw_m (fun _ => cd_s26_0 hp) ?_
  have hd1 : 1 ≤ 2 ^ d := ce_2pos
  have hline : (((1 : Int64) <<< ((nI d).toInt64 &&& 63)) - 1) <<< ((nI c).toInt64 &&& 63) = lN ((2 ^ d - 1) * 2 ^ c) := by
    rw [show (1 : Int64) = lN 1 from rfl, wb_shl 1 (by omega), Nat.one_mul, lN_sub hd1, wb_shl _ hc]
  rw [if_pos hin, if_pos hin, if_pos hin, nI_clamp (by omega), h7, h5, hline]
  refine cw_up (L := L) (w := w) (Q := fun v I1 J1 => v = none ∧ I1 = I ∧ (∀ b j, ¬ (b = p + 10 ∧ j = k) → J1 b j = J b j) ∧ (c / 8 + a ≤ 8 → c % 8 + d ≤ 8 → J1 (p + 10) k = lN (ce_msk (cf_sp c d a) 64))) (fun r (J1 : Nat → Nat → Int64) => cd_go 26 21 [.ref p, .int (nI k), .long (lN ((2 ^ d - 1) * 2 ^ c)), .null, .int (nI r)] [] (cd_mm L w I J1)) (fun r J1 => (∀ b j, ¬ (b = p + 10 ∧ j = k) → J1 b j = J b j) ∧ (c / 8 + a ≤ 8 → c % 8 + d ≤ 8 → J1 (p + 10) k = lN (ce_msk (cf_sp c d r) 64))) a ?_ ?_ 0 (cd_up J (p + 10) k 0) (Nat.zero_le _) ⟨fun b j h => cd_up_k2 h, fun _ _ => ?_⟩
  · intro J1 ⟨f1, g1⟩
    refine cw_m (fun _ => cd_s26_21 hp) ?_
    rw [if_pos hin, nI_clamp (by omega), h6, if_neg (fun q => Int32.lt_irrefl q)]
    exact cw_ret ⟨rfl, rfl, f1, g1⟩
  · intro r J1 hr ⟨f1, g1⟩ K
    refine cw_m (fun _ => cd_s26_21 hp) ?_
    rw [if_pos hin, nI_clamp (by omega), h6, if_pos (nI_lt hr (by omega)), if_pos hin, if_pos hin, show (8 : Int32) = nI 8 from rfl, pk_mul, wb_shl _ (by omega), nI_1]
    refine K _ ⟨fun b j h => by rw [cd_up_k2 h]; exact f1 b j h, fun q1 q2 => ?_⟩
    rw [cd_up_s, g1 q1 q2, cf_line hc q2 (by omega), cf_or (h := cf_sp c d (r + 1)) (fun i hi => ?_)]
    unfold cf_sp
    rw [Bool.eq_iff_iff]
    simp only [Bool.or_eq_true, Bool.and_eq_true, decide_eq_true_eq]
    omega
  · rw [cd_up_s, cf_cong (f := cf_sp c d 0) (h := fun _ => false) (fun i _ => by
      unfold cf_sp
      rw [show (decide (c / 8 ≤ i / 8) && decide (i / 8 < c / 8 + 0)) = false from by
        rw [Bool.and_eq_false_iff, decide_eq_false_iff_not, decide_eq_false_iff_not]
        omega]
      rfl), cf_msk0]
theorem cp_27t7 (hp : p = 66 ∨ p = 83) {k f : Nat} (hk : k < 3) (hF : cf_Fl f g I) {x2 : Int32} : cw L w (cd_go 27 70 [.ref p, .ref 3, .int x2, .int (nI k)] [] (cd_mm L w I J)) (cf_pe p f g I J) := by
  have hin : cd_in (nI k) 3 = true := cd_inN hk (by decide)
  refine cw_m (fun _ => cd_s27_70 hp) ?_
  rw [cp_23f hF, cw_bi]
  refine cw_m (fun _ => cd_s27_77 hp) ?_
  have F2 := hF.up (a := p + 8) (k := k) (v := 1) (by omega)
  rw [if_pos hin, nI_clamp (by omega), cp_23f F2, cw_bi]
  refine cw_m (fun _ => cd_s27_85 hp) ?_
  have F3 := F2.up (a := p + 9) (k := k) (v := 1) (by omega)
  rw [if_pos hin, nI_clamp (by omega)]
  exact cw_ret ⟨rfl, fun a j h1 h2 => by rw [cd_up_a (by omega), cd_up_a (by omega), cd_up_a (by omega)], fun _ _ _ => rfl, F3.up (by omega)⟩
theorem cp_27t3 (hp : p = 66 ∨ p = 83) {k f c a d : Nat} (hk : k < 3) (hc : c < 64) (ha : a ≤ 8) (hd : d ≤ 8) (hF : cf_Fl f g I) (h5 : I (p + 5) k = nI c) (h6 : I (p + 6) k = nI a) {x2 : Int32} : cw L w (cd_go 27 34 [.ref p, .ref 3, .int x2, .int (nI k)] [.int (nI d), .int (nI k), .ref (p + 7)] (cd_mm L w I J)) (cf_pe p f g I J) := by
  have hin : cd_in (nI k) 3 = true := cd_inN hk (by decide)
  refine cw_m (fun _ => cd_s27_34 hp) ?_
  have F1 := hF.up (a := p + 7) (k := k) (v := nI d) (by omega)
  have e5 : cd_up I (p + 7) k (nI d) (p + 5) k = nI c := (cd_up_a (by omega)).trans h5
  have e6 : cd_up I (p + 7) k (nI d) (p + 6) k = nI a := (cd_up_a (by omega)).trans h6
  rw [if_pos hin, if_pos hin, if_pos hin, nI_clamp (by omega)]
  have out : cw L w ((cd_cv (cd_c 22 [.ref 3, .int 5, .int (cd_up I (p + 7) k (nI d) 3 6)] (cd_mm L w (cd_up I (p + 7) k (nI d)) J))).bind fun m => cd_go 27 66 [.ref p, .ref 3, .int x2, .int (nI k)] [] m) (cf_pe p f g I J) := by
    rw [cp_22f F1, cw_bv]
    refine cw_m (fun _ => cd_s27_66 hp) ?_
    exact cw_ret ⟨rfl, fun b j h1 h2 => cd_up_a (by omega), fun _ _ _ => rfl, F1⟩
  refine cw_if (fun _ => out) (fun _ => ?_)
  rw [if_pos hin, if_pos hin]
  refine cw_if (fun _ => out) (fun _ => ?_)
  refine cw_cv (cw_mono (cp_26 hp hk hc ha hd e5 e6 cd_up_s) ?_)
  intro v I1 J1 ⟨hv, hI, fJ, _⟩
  subst hI
  refine ⟨hv, ?_⟩
  refine cw_mono (cp_27t7 hp hk F1) ?_
  intro v I2 J2 ⟨hv, f2, fj2, F2⟩
  exact ⟨hv, fun b j h1 h2 => (f2 b j h1 h2).trans (cd_up_a (by omega)), fun b j h => (fj2 b j h).trans (fJ b j (by omega)), F2⟩
theorem cp_27t2 (hp : p = 66 ∨ p = 83) {k f c a : Nat} (hk : k < 3) (hc : c < 64) (ha : a ≤ 8) (hF : cf_Fl f g I) (h5 : I (p + 5) k = nI c) {x2 : Int32} : cw L w (cd_go 27 26 [.ref p, .ref 3, .int x2, .int (nI k)] [.int (nI a), .int (nI k), .ref (p + 6)] (cd_mm L w I J)) (cf_pe p f g I J) := by
  have hin : cd_in (nI k) 3 = true := cd_inN hk (by decide)
  refine cw_m (fun _ => cd_s27_26 hp) ?_
  have F1 := hF.up (a := p + 6) (k := k) (v := nI a) (by omega)
  rw [if_pos hin, nI_clamp (by omega), cp_23f F1, cw_bi]
  refine cw_mono (cp_27t3 (d := 1) hp hk hc ha (by decide) F1 ((cd_up_a (by omega)).trans h5) cd_up_s) ?_
  intro v I2 J2 ⟨hv, f2, fj2, F2⟩
  exact ⟨hv, fun b j h1 h2 => (f2 b j h1 h2).trans (cd_up_a (by omega)), fj2, F2⟩
theorem cp_27t1 (hp : p = 66 ∨ p = 83) {k f c : Nat} (hk : k < 3) (hc : c < 64) (hF : cf_Fl f g I) {x2 : Int32} : cw L w (cd_go 27 18 [.ref p, .ref 3, .int x2, .int (nI k)] [.int (nI c), .int (nI k), .ref (p + 5)] (cd_mm L w I J)) (cf_pe p f g I J) := by
  have hin : cd_in (nI k) 3 = true := cd_inN hk (by decide)
  refine cw_m (fun _ => cd_s27_18 hp) ?_
  have F1 := hF.up (a := p + 5) (k := k) (v := nI c) (by omega)
  rw [if_pos hin, nI_clamp (by omega), cp_23f F1, cw_bi]
  refine cw_mono (cp_27t2 (a := 1) hp hk hc (by decide) F1 cd_up_s) ?_
  intro v I2 J2 ⟨hv, f2, fj2, F2⟩
  exact ⟨hv, fun b j h1 h2 => (f2 b j h1 h2).trans (cd_up_a (by omega)), fj2, F2⟩
theorem cf_PB_C (hp : p = 66 ∨ p = 83) (h : cf_PB D S p I J) {k c a d e l : Nat} (hk : D 0 1 = k) {J1 : Nat → Nat → Int64} (hJ : ∀ b j, ¬ (b = p + 10 ∧ j = k) → J1 b j = J b j) (hJk : J1 (p + 10) k = lN (ce_msk (cf_sp c d a) 64)) : cf_PB (ce_aC D c a d e l) S p (cd_up (cd_up (cd_up (cd_up (cd_up (cd_up I (p + 5) k (nI c)) (p + 6) k (nI a)) (p + 7) k (nI d)) (p + 8) k (nI e)) (p + 9) k (nI l)) p 1 (nI (k + 1))) J1 := by
  obtain ⟨⟨⟨a1, a2, a3, a4, a5⟩, hb, hc, hd⟩, ⟨⟨s1, s2⟩, s3, s4⟩, b3, b18⟩ := h
  generalize hX : cd_up (cd_up (cd_up (cd_up (cd_up (cd_up I (p + 5) k (nI c)) (p + 6) k (nI a)) (p + 7) k (nI d)) (p + 8) k (nI e)) (p + 9) k (nI l)) p 1 (nI (k + 1)) = X
  have xo : ∀ u j, u ≠ p + 5 → u ≠ p + 6 → u ≠ p + 7 → u ≠ p + 8 → u ≠ p + 9 → ¬ (u = p ∧ j = 1) → X u j = I u j := fun u j q1 q2 q3 q4 q5 q6 => by rw [← hX, cd_up_k2 q6, cd_up_a q5, cd_up_a q4, cd_up_a q3, cd_up_a q2, cd_up_a q1]
  have x0 : X p 1 = nI (k + 1) := by rw [← hX, cd_up_s]
  have x5 : ∀ j, X (p + 5) j = if j = k then nI c else I (p + 5) j := fun j => by
    rw [← hX, cd_up_k2 (by omega), cd_up_a (by omega), cd_up_a (by omega), cd_up_a (by omega), cd_up_a (by omega), cw_uu, if_pos rfl]
  have x6 : ∀ j, X (p + 6) j = if j = k then nI a else I (p + 6) j := fun j => by
    rw [← hX, cd_up_k2 (by omega), cd_up_a (by omega), cd_up_a (by omega), cd_up_a (by omega), cw_uu, if_pos rfl, cd_up_a (by omega)]
  have x7 : ∀ j, X (p + 7) j = if j = k then nI d else I (p + 7) j := fun j => by
    rw [← hX, cd_up_k2 (by omega), cd_up_a (by omega), cd_up_a (by omega), cw_uu, if_pos rfl, cd_up_a (by omega), cd_up_a (by omega)]
  have x8 : ∀ j, X (p + 8) j = if j = k then nI e else I (p + 8) j := fun j => by
    rw [← hX, cd_up_k2 (by omega), cd_up_a (by omega), cw_uu, if_pos rfl, cd_up_a (by omega), cd_up_a (by omega), cd_up_a (by omega)]
  have x9 : ∀ j, X (p + 9) j = if j = k then nI l else I (p + 9) j := fun j => by
    rw [← hX, cd_up_k2 (by omega), cw_uu, if_pos rfl, cd_up_a (by omega), cd_up_a (by omega), cd_up_a (by omega), cd_up_a (by omega)]
  clear hX
  have e01 : ce_aC D c a d e l 0 1 = k + 1 := by rw [← hk]; rfl
  have d5 : ∀ j, ce_aC D c a d e l 5 j = if j = k then c else D 5 j := fun j => by rw [← hk]; rfl
  have d6 : ∀ j, ce_aC D c a d e l 6 j = if j = k then a else D 6 j := fun j => by rw [← hk]; rfl
  have d7 : ∀ j, ce_aC D c a d e l 7 j = if j = k then d else D 7 j := fun j => by rw [← hk]; rfl
  have d8 : ∀ j, ce_aC D c a d e l 8 j = if j = k then e else D 8 j := fun j => by rw [← hk]; rfl
  have d9 : ∀ j, ce_aC D c a d e l 9 j = if j = k then l else D 9 j := fun j => by rw [← hk]; rfl
  refine ⟨⟨⟨(xo _ _ (by omega) (by omega) (by omega) (by omega) (by omega) (by omega)).trans a1, by rw [x0, e01], (xo _ _ (by omega) (by omega) (by omega) (by omega) (by omega) (by omega)).trans a3, (xo _ _ (by omega) (by omega) (by omega) (by omega) (by omega) (by omega)).trans a4, (xo _ _ (by omega) (by omega) (by omega) (by omega) (by omega) (by omega)).trans a5⟩, fun u hu => ?_, fun j hj => ?_, fun j hj => ?_⟩, ⟨⟨(xo _ _ (by omega) (by omega) (by omega) (by omega) (by omega) (by omega)).trans s1, (xo _ _ (by omega) (by omega) (by omega) (by omega) (by omega) (by omega)).trans s2⟩, fun u hu => ?_, fun j hj => ?_⟩, (xo _ _ (by omega) (by omega) (by omega) (by omega) (by omega) (by omega)).trans b3, (xo _ _ (by omega) (by omega) (by omega) (by omega) (by omega) (by omega)).trans b18⟩
  · have := hb u hu
    rw [xo (p + 1) u (by omega) (by omega) (by omega) (by omega) (by omega) (by omega), xo (p + 2) u (by omega) (by omega) (by omega) (by omega) (by omega) (by omega), xo (p + 3) u (by omega) (by omega) (by omega) (by omega) (by omega) (by omega), xo (p + 4) u (by omega) (by omega) (by omega) (by omega) (by omega) (by omega)]
    exact this
  · rw [e01] at hj
    rw [x5, x6, x7, x8, x9, d5, d6, d7, d8, d9]
    by_cases hjk : j = k
    · subst hjk
      have un : cd_und (ce_aC D c a d e l) j = cf_sp c d a := funext fun i => by
        unfold cd_und cf_sp
        rw [d5, d6, d7, if_pos rfl, if_pos rfl, if_pos rfl]
      rw [if_pos rfl, if_pos rfl, if_pos rfl, if_pos rfl, if_pos rfl, if_pos rfl, if_pos rfl, if_pos rfl, if_pos rfl, if_pos rfl, un]
      exact ⟨rfl, rfl, rfl, rfl, rfl, hJk⟩
    · have un : cd_und (ce_aC D c a d e l) j = cd_und D j := funext fun i => by
        unfold cd_und
        rw [d5, d6, d7, if_neg hjk, if_neg hjk, if_neg hjk]
      rw [if_neg hjk, if_neg hjk, if_neg hjk, if_neg hjk, if_neg hjk, if_neg hjk, if_neg hjk, if_neg hjk, if_neg hjk, if_neg hjk, un, hJ _ _ (by omega)]
      exact hc j (by omega)
  · have := hd j hj
    rw [xo (p + 11) j (by omega) (by omega) (by omega) (by omega) (by omega) (by omega), xo (p + 12) j (by omega) (by omega) (by omega) (by omega) (by omega) (by omega)]
    exact this
  · have := s3 u hu
    rw [xo (p + 13 + 1) u (by omega) (by omega) (by omega) (by omega) (by omega) (by omega)]
    exact this
  · have := s4 j hj
    rw [xo (p + 13 + 2) j (by omega) (by omega) (by omega) (by omega) (by omega) (by omega), xo (p + 13 + 3) j (by omega) (by omega) (by omega) (by omega) (by omega) (by omega)]
    exact this
end CHF
