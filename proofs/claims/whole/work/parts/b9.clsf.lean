/-! ===== the class: a hold told ===== -/
section CHH
variable {L : Nat} {w : Bool} {I : Nat → Nat → Int32} {J : Nat → Nat → Int64} {D : cd_D} {S : cd_S}
variable {x : Nat → Nat} {n q p g : Nat}
theorem cf_PB_H (hp : p = 66 ∨ p = 83) (h : cf_PB D S p I J) (hO : ce_okP D S) {k c t v b : Nat} (hk : D 0 2 = k) : cf_PB (ce_aH D c t) (ce_aS D S v b) p (cd_up (cd_up (cd_up (cd_up (cd_up (cd_up I (p + 11) k (nI c)) (p + 12) k (nI t)) (p + 13 + 2) k (nI v)) (p + 13 + 3) k (nI b)) (p + 13) 2 (nI (S 0 2 ||| 2 ^ k))) p 2 (nI (k + 1))) J := by
  obtain ⟨⟨⟨a1, a2, a3, a4, a5⟩, hb, hc, hd⟩, ⟨⟨s1, s2⟩, s3, s4⟩, b3, b18⟩ := h
  have hS2 := hO.2.2.2.1
  generalize hX : cd_up (cd_up (cd_up (cd_up (cd_up (cd_up I (p + 11) k (nI c)) (p + 12) k (nI t)) (p + 13 + 2) k (nI v)) (p + 13 + 3) k (nI b)) (p + 13) 2 (nI (S 0 2 ||| 2 ^ k))) p 2 (nI (k + 1)) = X
  have xo : ∀ u j, u ≠ p + 11 → u ≠ p + 12 → u ≠ p + 15 → u ≠ p + 16 → ¬ (u = p + 13 ∧ j = 2) → ¬ (u = p ∧ j = 2) → X u j = I u j := fun u j q1 q2 q3 q4 q5 q6 => by rw [← hX, cd_up_k2 q6, cd_up_k2 q5, cd_up_a (by omega), cd_up_a (by omega), cd_up_a q2, cd_up_a q1]
  have x2 : X p 2 = nI (k + 1) := by rw [← hX, cd_up_s]
  have xh : X (p + 13) 2 = nI (S 0 2 ||| 2 ^ k) := by rw [← hX, cd_up_k2 (by omega), cd_up_s]
  have x11 : ∀ j, X (p + 11) j = if j = k then nI c else I (p + 11) j := fun j => by
    rw [← hX, cd_up_k2 (by omega), cd_up_k2 (by omega), cd_up_a (by omega), cd_up_a (by omega), cd_up_a (by omega), cw_uu, if_pos rfl]
  have x12 : ∀ j, X (p + 12) j = if j = k then nI t else I (p + 12) j := fun j => by
    rw [← hX, cd_up_k2 (by omega), cd_up_k2 (by omega), cd_up_a (by omega), cd_up_a (by omega), cw_uu, if_pos rfl, cd_up_a (by omega)]
  have x15 : ∀ j, X (p + 13 + 2) j = if j = k then nI v else I (p + 13 + 2) j := fun j => by
    rw [← hX, cd_up_k2 (by omega), cd_up_k2 (by omega), cd_up_a (by omega), cw_uu, if_pos rfl, cd_up_a (by omega), cd_up_a (by omega)]
  have x16 : ∀ j, X (p + 13 + 3) j = if j = k then nI b else I (p + 13 + 3) j := fun j => by
    rw [← hX, cd_up_k2 (by omega), cd_up_k2 (by omega), cw_uu, if_pos rfl, cd_up_a (by omega), cd_up_a (by omega), cd_up_a (by omega)]
  clear hX
  have e02 : ce_aH D c t 0 2 = k + 1 := by rw [← hk]; rfl
  have d11 : ∀ j, ce_aH D c t 11 j = if j = k then c else D 11 j := fun j => by rw [← hk]; rfl
  have d12 : ∀ j, ce_aH D c t 12 j = if j = k then t else D 12 j := fun j => by rw [← hk]; rfl
  have dS2 : ∀ j, ce_aS D S v b 2 j = if j = k then v else S 2 j := fun j => by rw [← hk]; rfl
  have dS3 : ∀ j, ce_aS D S v b 3 j = if j = k then b else S 3 j := fun j => by rw [← hk]; rfl
  have dh : ce_aS D S v b 0 2 = S 0 2 ||| 2 ^ k := by
    have e1 : ce_aS D S v b 0 2 = S 0 2 + 2 ^ D 0 2 := rfl
    have hlt : S 0 2 < 2 ^ D 0 2 := by omega
    have := Nat.two_pow_add_eq_or_of_lt hlt 1
    rw [Nat.mul_one] at this
    rw [e1, ← hk, Nat.add_comm, this, Nat.or_comm]
  refine ⟨⟨⟨(xo _ _ (by omega) (by omega) (by omega) (by omega) (by omega) (by omega)).trans a1, (xo _ _ (by omega) (by omega) (by omega) (by omega) (by omega) (by omega)).trans a2, by rw [x2, e02], (xo _ _ (by omega) (by omega) (by omega) (by omega) (by omega) (by omega)).trans a4, (xo _ _ (by omega) (by omega) (by omega) (by omega) (by omega) (by omega)).trans a5⟩, fun u hu => ?_, fun j hj => ?_, fun j hj => ?_⟩, ⟨⟨(xo _ _ (by omega) (by omega) (by omega) (by omega) (by omega) (by omega)).trans s1, by rw [xh, dh]⟩, fun u hu => ?_, fun j hj => ?_⟩, (xo _ _ (by omega) (by omega) (by omega) (by omega) (by omega) (by omega)).trans b3, (xo _ _ (by omega) (by omega) (by omega) (by omega) (by omega) (by omega)).trans b18⟩
  · have := hb u hu
    rw [xo (p + 1) u (by omega) (by omega) (by omega) (by omega) (by omega) (by omega), xo (p + 2) u (by omega) (by omega) (by omega) (by omega) (by omega) (by omega), xo (p + 3) u (by omega) (by omega) (by omega) (by omega) (by omega) (by omega), xo (p + 4) u (by omega) (by omega) (by omega) (by omega) (by omega) (by omega)]
    exact this
  · have := hc j hj
    rw [xo (p + 5) j (by omega) (by omega) (by omega) (by omega) (by omega) (by omega), xo (p + 6) j (by omega) (by omega) (by omega) (by omega) (by omega) (by omega), xo (p + 7) j (by omega) (by omega) (by omega) (by omega) (by omega) (by omega), xo (p + 8) j (by omega) (by omega) (by omega) (by omega) (by omega) (by omega), xo (p + 9) j (by omega) (by omega) (by omega) (by omega) (by omega) (by omega)]
    exact this
  · rw [e02] at hj
    rw [x11, x12, d11, d12]
    by_cases hjk : j = k
    · rw [if_pos hjk, if_pos hjk, if_pos hjk, if_pos hjk]
      exact ⟨rfl, rfl⟩
    · rw [if_neg hjk, if_neg hjk, if_neg hjk, if_neg hjk]
      exact hd j (by omega)
  · have := s3 u hu
    rw [xo (p + 13 + 1) u (by omega) (by omega) (by omega) (by omega) (by omega) (by omega)]
    exact this
  · rw [e02] at hj
    rw [x15, x16, dS2, dS3]
    by_cases hjk : j = k
    · rw [if_pos hjk, if_pos hjk, if_pos hjk, if_pos hjk]
      exact ⟨rfl, rfl⟩
    · rw [if_neg hjk, if_neg hjk, if_neg hjk, if_neg hjk]
      exact s4 j (by omega)
theorem cp_33x (hp : p = 66 ∨ p = 83) (hK : cf_K x n q I) (hP : cf_PB D S p I J) (h12 : D 0 2 = 12) {s : Nat} : cw L w (cd_c 33 [.ref p, .ref 3, .int (nI s)] (cd_mm L w I J)) (cf_pq x n p I J (.error (4, s))) := by
  refine cw_c (l := [.ref p, .ref 3, .int (nI s), .null, .null, .null, .null]) (by rcases hp with rfl | rfl <;> rfl) (by rcases hp with rfl | rfl <;> rfl) ?_
  refine cw_m (fun _ => cd_s33_0 hp) ?_
  rw [hP.1.1.2.2.1, h12, if_neg (show ¬ nI 12 < 12 by decide), show (4 : Int32) = nI 4 from rfl, cp_22 hK.2.1.1, cw_bv]
  refine cw_m (fun _ => cd_s33_10 hp) ?_
  exact cw_ret ⟨rfl, fun a k h1 h2 => by rw [cd_up_k2 (by omega), cd_up_k2 (by omega)], fun _ _ _ => rfl, cf_bl (by decide) (by decide)⟩
theorem cp_33 (hn : n ≤ 500) (hx : ∀ k, x k < 256) (hp : p = 66 ∨ p = 83) (hK : cf_K x n q I) (hq : q ≤ n) (hP : cf_PB D S p I J) (hO : ce_okP D S) (h12 : D 0 2 < 12) {s : Nat} : cw L w (cd_c 33 [.ref p, .ref 3, .int (nI s)] (cd_mm L w I J)) (cf_pq x n p I J (ce_pH x n q D S)) := by
  have hps : p + 13 = 22 ∨ p + 13 = 79 ∨ p + 13 = 96 := by omega
  have hps4 : p + 13 = 22 ∨ p + 13 = 45 ∨ p + 13 = 79 ∨ p + 13 = 96 := by omega
  have d8 := hO.1.1.1
  have d3 := hO.1.1.2.1
  have hb3 := hO.2.2.2.2.1
  have h64 := hO.2.1.1.1
  have hS2 := hO.2.2.2.1
  have hpw := ce_pw (show D 0 2 ≤ 12 by omega)
  refine cw_c (l := [.ref p, .ref 3, .int (nI s), .null, .null, .null, .null]) (by rcases hp with rfl | rfl <;> rfl) (by rcases hp with rfl | rfl <;> rfl) ?_
  refine cw_m (fun _ => cd_s33_0 hp) ?_
  have hin : cd_in (nI (D 0 2)) 12 = true := cd_inN (by omega) (by decide)
  rw [hP.1.1.2.2.1, if_pos (show nI (D 0 2) < 12 from nI_lt (b := 12) h12 (by decide)), hP.1.1.2.1]
  have e0 : ce_pH x n q D S = ce_bd (ce_num x n 0 (D 0 1) q) fun c => ce_bd (ce_num x n 0 (D 0 0) c.2.2) fun t => if ce_pai D c.1 t.1 || ((D 0 3).testBit t.1 || !cd_und D c.1 (S 1 t.1)) then .error (3, t.2.1) else match ce_kw x (ce_sk x n t.2.2) (ce_we x n (ce_sk x n t.2.2) - ce_sk x n t.2.2) with
    | none => .error (1, ce_sk x n t.2.2)
    | some v => ce_bd (ce_pB x n (ce_we x n (ce_sk x n t.2.2)) v) fun b => .ok (b.2, ce_aH D c.1 t.1, ce_aS D S v b.1) := rfl
  rw [e0]
  refine cp_23 hn hx hK hq (lo := 0) (hi := D 0 1) (by decide) (by omega) rfl (by
    rw [← zI_n (D 0 1), show (1 : Int32) = zI 1 from rfl, zI_sub]) ?_ ?_
  · intro I1 c s1 q1 r1 f1 K1 _
    obtain ⟨_, hcD, _, hq1n, _⟩ := ce_num_b hq r1
    rw [r1]
    show cw L w _ (cf_pq x n p I J (ce_bd (ce_num x n 0 (D 0 0) q1) fun t => if ce_pai D c t.1 || ((D 0 3).testBit t.1 || !cd_und D c (S 1 t.1)) then .error (3, t.2.1) else match ce_kw x (ce_sk x n t.2.2) (ce_we x n (ce_sk x n t.2.2) - ce_sk x n t.2.2) with
      | none => .error (1, ce_sk x n t.2.2)
      | some v => ce_bd (ce_pB x n (ce_we x n (ce_sk x n t.2.2)) v) fun b => .ok (b.2, ce_aH D c t.1, ce_aS D S v b.1)))
    refine cw_m (fun _ => cd_s33_18 hp) ?_
    rw [f1 _ _ (by omega), hP.1.1.1]
    refine cp_23 hn hx K1 hq1n (lo := 0) (hi := D 0 0) (by decide) (by omega) rfl (by
      rw [← zI_n (D 0 0), show (1 : Int32) = zI 1 from rfl, zI_sub]) ?_ ?_
    · intro I2 t s2 q2 r2 f2 K2 g6
      obtain ⟨_, htD, _, hq2n, _⟩ := ce_num_b hq1n r2
      have f12 := f1.tr f2
      rw [r2]
      show cw L w _ (cf_pq x n p I J (if ce_pai D c t || ((D 0 3).testBit t || !cd_und D c (S 1 t)) then .error (3, s2) else match ce_kw x (ce_sk x n q2) (ce_we x n (ce_sk x n q2) - ce_sk x n q2) with
        | none => .error (1, ce_sk x n q2)
        | some v => ce_bd (ce_pB x n (ce_we x n (ce_sk x n q2)) v) fun b => .ok (b.2, ce_aH D c t, ce_aS D S v b.1)))
      refine cw_m (fun _ => cd_s33_26 hp) ?_
      have f2u := (f12.up (p + 11) (D 0 2) (nI c)).up (p + 12) (D 0 2) (nI t)
      have K2u := (K2.up (a := p + 11) (k := D 0 2) (v := nI c) (by omega)).up (a := p + 12) (k := D 0 2) (v := nI t) (by omega)
      have y3 : cd_up (cd_up I2 (p + 11) (D 0 2) (nI c)) (p + 12) (D 0 2) (nI t) p 3 = nI (D 0 3) := by
        rw [f2u _ _ (by omega), cd_up_a (by omega), cd_up_a (by omega)]
        exact hP.2.2.1
      have y36 : cd_up (cd_up I2 (p + 11) (D 0 2) (nI c)) (p + 12) (D 0 2) (nI t) 3 6 = nI s2 := by
        rw [cd_up_a (by omega), cd_up_a (by omega)]
        exact g6
      rw [K2.2.1.1, if_pos (show nI 0 = 0 from rfl), if_pos hin, if_pos hin, nI_clamp (by omega), y3, y36]
      generalize hI3 : cd_up (cd_up I2 (p + 11) (D 0 2) (nI c)) (p + 12) (D 0 2) (nI t) = I3 at *
      have fp3 : cf_fp p I I3 := fun b k h1 h2 => by rw [f2u b k h1, cd_up_a (by omega), cd_up_a (by omega)]
      have hb := nx_bit (k := D 0 3) (j := t) (by omega) (by omega)
      have out : (ce_pai D c t || ((D 0 3).testBit t || !cd_und D c (S 1 t))) = true → cw L w ((cd_cv (cd_c 22 [.ref 3, .int 3, .int (nI s2)] (cd_mm L w I3 J))).bind fun m => cd_go 33 64 [.ref p, .ref 3, .int (nI s), .int (nI (D 0 2)), .int (nI c), .int (nI t), .null] [] m) (cf_pq x n p I J (if ce_pai D c t || ((D 0 3).testBit t || !cd_und D c (S 1 t)) then .error (3, s2) else match ce_kw x (ce_sk x n q2) (ce_we x n (ce_sk x n q2) - ce_sk x n q2) with
          | none => .error (1, ce_sk x n q2)
          | some v => ce_bd (ce_pB x n (ce_we x n (ce_sk x n q2)) v) fun b => .ok (b.2, ce_aH D c t, ce_aS D S v b.1))) := fun hbad => by
        rw [if_pos hbad, show (3 : Int32) = nI 3 from rfl, cp_22 K2u.2.1.1, cw_bv]
        refine cw_m (fun _ => cd_s33_64 hp) ?_
        exact cw_ret ⟨rfl, fun b k h1 h2 => by rw [cd_up_k2 (by omega), cd_up_k2 (by omega), fp3 b k h1 h2], fun _ _ _ => rfl, cf_bl (by decide) (by decide)⟩
      cases hbr : (D 0 3).testBit t with
      | true =>
        rw [hbr] at out
        rw [if_neg (fun q => by rw [hb.mp q] at hbr; cases hbr)]
        exact out (by rw [Bool.true_or, Bool.or_true])
      | false =>
        rw [hbr] at out
        have c2 : I3 p 2 = nI (D 0 2) := by rw [f2u _ _ (by omega), cd_up_a (by omega), cd_up_a (by omega)]; exact hP.1.1.2.2.1
        rw [if_pos (hb.mpr hbr), cp_28 (D := D) hp c2 (by omega) (fun k hk => by
          have := hO.1.2.2.2 k hk
          rw [f2u (p + 11) k (by omega), f2u (p + 12) k (by omega), cd_up_a (by omega), cd_up_k (by omega), cd_up_k (by omega), cd_up_a (by omega)]
          exact ⟨hP.1.2.2.2 k hk, by omega, by omega⟩) (by omega) (by omega), cw_bi]
        refine cw_m (fun _ => cd_s33_52 hp) ?_
        have g36 : I3 3 6 = nI s2 := y36
        cases hpai : ce_pai D c t with
        | true =>
          rw [hpai] at out
          rw [if_neg (show ¬ cd_tf true = 0 by decide), g36]
          exact out rfl
        | false =>
          rw [hpai] at out
          rw [if_pos (show cd_tf false = 0 from rfl)]
          -- does it reach?
          have hP3 : cf_P D p I3 J := by
            refine ⟨⟨?_, ?_, c2, ?_, ?_⟩, fun u hu => ?_, fun k hk => ?_, fun k hk => ?_⟩
            · rw [f2u _ _ (by omega), cd_up_a (by omega), cd_up_a (by omega)]; exact hP.1.1.1
            · rw [f2u _ _ (by omega), cd_up_a (by omega), cd_up_a (by omega)]; exact hP.1.1.2.1
            · rw [f2u _ _ (by omega), cd_up_a (by omega), cd_up_a (by omega)]; exact hP.1.1.2.2.2.1
            · rw [f2u _ _ (by omega), cd_up_a (by omega), cd_up_a (by omega)]; exact hP.1.1.2.2.2.2
            · rw [f2u (p + 1) u (by omega), cd_up_a (by omega), cd_up_a (by omega), f2u (p + 2) u (by omega), cd_up_a (by omega), cd_up_a (by omega), f2u (p + 3) u (by omega), cd_up_a (by omega), cd_up_a (by omega), f2u (p + 4) u (by omega), cd_up_a (by omega), cd_up_a (by omega)]
              exact hP.1.2.1 u hu
            · rw [f2u (p + 5) k (by omega), cd_up_a (by omega), cd_up_a (by omega), f2u (p + 6) k (by omega), cd_up_a (by omega), cd_up_a (by omega), f2u (p + 7) k (by omega), cd_up_a (by omega), cd_up_a (by omega), f2u (p + 8) k (by omega), cd_up_a (by omega), cd_up_a (by omega), f2u (p + 9) k (by omega), cd_up_a (by omega), cd_up_a (by omega)]
              exact hP.1.2.2.1 k hk
            · rw [f2u (p + 11) k (by omega), f2u (p + 12) k (by omega), cd_up_a (by omega), cd_up_k (by omega), cd_up_k (by omega), cd_up_a (by omega)]
              exact hP.1.2.2.2 k hk
          have z11 : I3 (p + 11) (D 0 2) = nI c := by rw [f2u _ _ (by omega), cd_up_a (by omega), cd_up_s]
          have z12 : I3 (p + 12) (D 0 2) = nI t := by rw [f2u _ _ (by omega), cd_up_s]
          have z14 : I3 (p + 13 + 1) t = nI (S 1 t) := by
            rw [f2u _ _ (by omega), cd_up_a (by omega), cd_up_a (by omega)]
            exact hP.2.1.2.1 t htD
          have reach : cd_c 30 [.ref p, .ref (p + 13), .int (nI (D 0 2))] (cd_mm L w I3 J) = some (some (.int (cd_tf (cd_und D c (S 1 t)))), cd_mm L w I3 J) := by
            refine cd_c_of (l := [.ref p, .ref (p + 13), .int (nI (D 0 2))]) (by rcases hp with rfl | rfl <;> rfl) (by rcases hp with rfl | rfl <;> rfl) (cd_s30_0 hp hps4 ?_)
            rw [if_pos hin, if_pos hin, nI_clamp (by omega), z11, z12, if_pos (cd_inN (by omega) (by decide)), nI_clamp (by omega), z14]
            refine cd_ci_s.mpr ⟨_, _, cp_29 hp hP3 d3 hcD (h64 t htD), cd_s30_13 hp hps4 ?_⟩
            rw [if_pos (cd_tf_and _)]
          rw [reach, cw_bi]
          refine cw_m (fun _ => cd_s33_58 hp) ?_
          cases hu : cd_und D c (S 1 t) with
          | false =>
            rw [hu] at out
            rw [if_pos (show cd_tf false = 0 from rfl), g36]
            exact out rfl
          | true =>
            rw [if_neg (show ¬ cd_tf true = 0 by decide), if_neg (show ¬ (false || (false || !true)) = true by decide)]
            refine cw_ci (cw_mono (cp_31 hn hx K2u hq2n) ?_)
            intro v I4 J4 ⟨hJ4, f4, hkw⟩
            have hJ4 := hJ4.symm
            subst hJ4
            have f4u := f2u.tr f4
            have fp4 : cf_fp p I I4 := fun b k h1 h2 => by rw [f4 b k h1]; exact fp3 b k h1 h2
            -- the end, a fault told or not
            have tail : ∀ (I5 : Nat → Nat → Int32) (v6 b : Nat) (fe ge : Nat), cf_fp p I I5 → cf_Fl fe ge I5 → cw L w ((cd_cv (cd_c 32 [.ref (p + 13), .int (nI (D 0 2)), .int (nI v6), .int (nI b)] (cd_mm L w I5 J))).bind fun m => cd_go 33 82 [.ref p, .ref 3, .int (nI s), .int (nI (D 0 2)), .int (nI c), .int (nI t), .int (nI v6)] [] m) (cf_pq x n p I J (.error (fe, ge))) := by
              intro I5 v6 b fe ge fp5 F5
              rw [cp_32 hps h12, cw_bv]
              refine cw_m (fun _ => cd_s33_82 hp) ?_
              refine cw_ret ⟨rfl, fun a k h1 h2 => ?_, fun _ _ _ => rfl, (((F5.up (by omega)).up (by omega)).up (by omega)).up (by omega)⟩
              rw [cd_up_a (by omega), cd_up_a (by omega), cd_up_a (by omega), cd_up_a (by omega)]
              exact fp5 a k h1 h2
            have fin : ∀ (I5 : Nat → Nat → Int32) (v6 b e : Nat), cf_f3 I4 I5 → cf_K x n e I5 → cw L w ((cd_cv (cd_c 32 [.ref (p + 13), .int (nI (D 0 2)), .int (nI v6), .int (nI b)] (cd_mm L w I5 J))).bind fun m => cd_go 33 82 [.ref p, .ref 3, .int (nI s), .int (nI (D 0 2)), .int (nI c), .int (nI t), .int (nI v6)] [] m) (cf_pq x n p I J (.ok (e, ce_aH D c t, ce_aS D S v6 b))) := by
              intro I5 v6 b e f5 K5
              have f5u := ((f4u.tr f5).up (p + 13 + 2) (D 0 2) (nI v6)).up (p + 13 + 3) (D 0 2) (nI b)
              rw [cp_32 hps h12, cw_bv]
              refine cw_m (fun _ => cd_s33_82 hp) ?_
              have w1 : cd_up (cd_up I5 (p + 13 + 2) (D 0 2) (nI v6)) (p + 13 + 3) (D 0 2) (nI b) (p + 13) 2 = nI (S 0 2) := by
                rw [f5u _ _ (by omega), cd_up_a (by omega), cd_up_a (by omega), cd_up_a (by omega), cd_up_a (by omega)]
                exact hP.2.1.1.2
              have w2 : cd_up (cd_up I5 (p + 13 + 2) (D 0 2) (nI v6)) (p + 13 + 3) (D 0 2) (nI b) p 2 = nI (D 0 2) := by
                rw [f5u _ _ (by omega), cd_up_a (by omega), cd_up_a (by omega), cd_up_a (by omega), cd_up_a (by omega)]
                exact hP.1.1.2.2.1
              rw [w1, show (1 : Int32) <<< (nI (D 0 2) &&& 31) = nI (2 ^ D 0 2) from cw_sh1 (by omega), cw_or, cd_up_a (show p ≠ p + 13 by omega), w2, nI_1]
              have f6u := (f5u.up (p + 13) 2 (nI (S 0 2 ||| 2 ^ D 0 2))).up p 2 (nI (D 0 2 + 1))
              refine cw_ret ⟨rfl, fun a k h1 h2 => ?_, fun _ _ _ => rfl, (((K5.up (by omega)).up (by omega)).up (by omega)).up (by omega), (cf_PB_H hp hP hO rfl).of3 hp f6u⟩
              rw [f6u a k h1, cd_up_a (by omega), cd_up_a (by omega), cd_up_a (by omega), cd_up_a (by omega), cd_up_a (by omega), cd_up_a (by omega)]
            cases hw : ce_kw x (ce_sk x n q2) (ce_we x n (ce_sk x n q2) - ce_sk x n q2) with
            | none =>
              rw [hw] at hkw
              refine ⟨_, hkw.1, ?_⟩
              refine cw_m (fun _ => cd_s33_67 hp) ?_
              rw [if_neg (show ¬ nI 4 = 2 by decide)]
              exact tail I4 4 0 1 _ fp4 hkw.2
            | some k =>
              rw [hw] at hkw
              obtain ⟨hv, K4⟩ := hkw
              have hk4 := ce_kw_b hw
              have hsl := cf_sk_le (x := x) hq2n
              have hwn := (cf_we_b (x := x) hsl).2
              refine ⟨_, hv, ?_⟩
              refine cw_m (fun _ => cd_s33_67 hp) ?_
              show cw L w _ (cf_pq x n p I J (ce_bd (ce_pB x n (ce_we x n (ce_sk x n q2)) k) fun b => .ok (b.2, ce_aH D c t, ce_aS D S k b.1)))
              by_cases h2 : k = 2
              · subst h2
                have eB : ce_pB x n (ce_we x n (ce_sk x n q2)) 2 = ce_bd (ce_num x n 1 100 (ce_we x n (ce_sk x n q2))) fun b => .ok (b.1, b.2.2) := rfl
                rw [if_pos (show nI 2 = 2 from rfl), eB]
                refine cp_23 hn hx K4 hwn (lo := 1) (hi := 100) (by decide) (by decide) rfl rfl ?_ ?_
                · intro I5 b s5 q5 r5 f5 K5 _
                  rw [r5]
                  refine cw_m (fun _ => cd_s33_79 hp) ?_
                  exact fin I5 2 b q5 f5 K5
                · intro I5 f p5 r5 f5 F5
                  rw [r5]
                  refine cw_m (fun _ => cd_s33_79 hp) ?_
                  exact tail I5 2 1 f p5 (fun b k h1 h2 => by rw [f5 b k h1]; exact fp4 b k h1 h2) F5
              · have eB : ce_pB x n (ce_we x n (ce_sk x n q2)) k = .ok (0, ce_we x n (ce_sk x n q2)) := if_neg h2
                rw [if_neg (show ¬ nI k = 2 from fun q => h2 ((nI_eq (b := 2) (by omega) (by decide)).mp q)), eB]
                exact fin I4 k 0 _ cf_f3.rf K4
    · intro I2 f p2 r2 f2 F2
      rw [r2]
      refine cw_m (fun _ => cd_s33_26 hp) ?_
      rw [if_neg F2.ne]
      exact cw_ret ⟨rfl, fun b k h1 h2 => by rw [f2 b k h1, f1 b k h1], fun _ _ _ => rfl, F2⟩
  · intro I1 f p1 r1 f1 F1
    rw [r1]
    refine cw_m (fun _ => cd_s33_18 hp) ?_
    rw [cp_23f F1, cw_bi]
    refine cw_m (fun _ => cd_s33_26 hp) ?_
    rw [if_neg F1.ne]
    exact cw_ret ⟨rfl, fun b k h1 h2 => f1 b k h1, fun _ _ _ => rfl, F1⟩
end CHH
