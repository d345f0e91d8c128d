/-! ===== the class: a den's text read ===== -/
section CDN
variable {L : Nat} {w : Bool} {I : Nat → Nat → Int32} {J : Nat → Nat → Int64} {D : cd_D} {S : cd_S}
variable {x : Nat → Nat} {n q p g : Nat}
theorem cp_18 (hp : p = 66 ∨ p = 83) {r : Nat} : cw L w (cd_c 18 [.ref p] (cd_mm L w I J)) (fun v I1 J1 => v = none ∧ J1 = J ∧ (∀ a k, ¬ (p ≤ a ∧ a ≤ p + 16) → I1 a k = I a k) ∧ cf_PB ce_D0 (ce_S0 r) p I1 J1) := by
  refine cw_c (l := [.ref p]) (by rcases hp with rfl | rfl <;> rfl) (by rcases hp with rfl | rfl <;> rfl) ?_
  refine cw_m (fun _ => cd_s18_0 hp) ?_
  generalize hX : cd_up (cd_up (cd_up (cd_up (cd_up (cd_up (cd_up (cd_up (cd_up I p 0 0) p 1 0) p 2 0) p 3 0) p 16 60) p 17 10) p 18 0) (p + 13) 1 0) (p + 13) 2 0 = X
  have xo : ∀ a k, a ≠ p → a ≠ p + 13 → X a k = I a k := fun a k h1 h2 => by rw [← hX, cd_up_a h2, cd_up_a h2, cd_up_a h1, cd_up_a h1, cd_up_a h1, cd_up_a h1, cd_up_a h1, cd_up_a h1, cd_up_a h1]
  have xp : ∀ k, X p k = if k = 18 then 0 else if k = 17 then 10 else if k = 16 then 60 else if k = 3 then 0 else if k = 2 then 0 else if k = 1 then 0 else if k = 0 then 0 else I p k := fun k => by
    rw [← hX, cd_up_a (by omega), cd_up_a (by omega)]
    simp only [cw_uu, if_true]
  have x1 : X (p + 13) 1 = 0 := by rw [← hX, cd_up_k (by decide), cd_up_s]
  have x2 : X (p + 13) 2 = 0 := by rw [← hX, cd_up_s]
  refine cw_ret ⟨rfl, rfl, fun a k h => xo a k (by omega) (by omega), ⟨⟨?_, ?_, ?_, ?_, ?_⟩, fun t ht => absurd ht (Nat.not_lt_zero t), fun t ht => absurd ht (Nat.not_lt_zero t), fun t ht => absurd ht (Nat.not_lt_zero t)⟩, ⟨⟨x1, x2⟩, fun t ht => absurd ht (Nat.not_lt_zero t), fun t ht => absurd ht (Nat.not_lt_zero t)⟩, ?_, ?_⟩
  all_goals
    rw [xp]
    rfl
def cf_q38 (p : Nat) (I : Nat → Nat → Int32) (J : Nat → Nat → Int64) (r : Except (Nat × Nat) (cd_D × cd_S)) : Option Value → (Nat → Nat → Int32) → (Nat → Nat → Int64) → Prop := fun v I1 J1 => v = none ∧ cf_fp p I I1 ∧ (∀ a j, a ≠ p + 10 → J1 a j = J a j) ∧ match r with
  | .ok (D1, S1) => (I1 3 7 = nI 0 ∧ I1 3 8 = zI (-1)) ∧ cf_PB D1 S1 p I1 J1
  | .error (f, q) => cf_Fl f q I1
theorem cp_38e (hp : p = 66 ∨ p = 83) {f : Nat} (hF : cf_Fl f g I) {x2 x3 : Int32} : cd_go 38 4 [.ref p, .ref 3, .int x2, .int x3] [] (cd_mm L w I J) = some (none, cd_mm L w I J) := by
  refine cw_eq (cw_m (fun _ => cd_s38_4 hp) ?_)
  by_cases h : x2 < 500
  · rw [if_pos h, cp_19f hF, cw_bi]
    refine cw_m (fun _ => cd_s38_9 hp) ?_
    rw [if_pos rfl]
    exact cw_ret ⟨rfl, rfl, rfl⟩
  · rw [if_neg h]
    exact cw_ret ⟨rfl, rfl, rfl⟩
/-- a clause, and its end -/
theorem cp_38c (hn : n ≤ 500) (hx : ∀ k, x k < 256) (hp : p = 66 ∨ p = 83) {I0 : Nat → Nat → Int32} {J0 : Nat → Nat → Int64} (fI : cf_fp p I0 I) (fJ : ∀ a j, a ≠ p + 10 → J a j = J0 a j) (hO : ce_okP D S) (hq : q ≤ n) (hs : ce_sk x n q < n) {f : Nat} {x2 x3 : Int32}
    (IH : ∀ z D1 S1 I1 J1, ce_pc x n q D S = .ok (z, D1, S1) → cf_fp p I0 I1 → (∀ a j, a ≠ p + 10 → J1 a j = J0 a j) → cf_K x n z I1 → cf_PB D1 S1 p I1 J1 → cw L w (cd_go 38 4 [.ref p, .ref 3, .int (x2 + 1), .int x3] [] (cd_mm L w I1 J1)) (cf_q38 p I0 J0 (ce_pD x n f z D1 S1)))
    {c : Option cd_Ret} {k : cd_M → Option cd_Ret} (hc : cw L w c (cf_pq x n p I J (ce_pW x n (ce_sk x n q) (ce_we x n (ce_sk x n q)) D S))) (hk : ∀ I1 J1, cw L w (cd_go 38 61 [.ref p, .ref 3, .int x2, .int x3] [] (cd_mm L w I1 J1)) (cf_q38 p I0 J0 (ce_pD x n (f + 1) q D S)) → cw L w (k (cd_mm L w I1 J1)) (cf_q38 p I0 J0 (ce_pD x n (f + 1) q D S))) : cw L w ((cd_cv c).bind k) (cf_q38 p I0 J0 (ce_pD x n (f + 1) q D S)) := by
  have hsn := cf_sk_le (x := x) hq
  have hwe := cf_we_b (x := x) hsn
  have ft : ∀ {Ia Ib : Nat → Nat → Int32}, cf_fp p I0 Ia → cf_fp p Ia Ib → cf_fp p I0 Ib := fun h1 h2 a k g1 g2 => (h2 a k g1 g2).trans (h1 a k g1 g2)
  refine cw_cv (cw_mono hc ?_)
  intro v I1 J1 ⟨hv, f1, g1, hr⟩
  refine ⟨hv, hk I1 J1 ?_⟩
  refine cw_m (fun _ => cd_s38_61 hp) ?_
  have eD : ce_pD x n (f + 1) q D S = ce_bd (ce_pc x n q D S) fun a => ce_pD x n f a.1 a.2.1 a.2.2 := by
    show (if ce_sk x n q < n then _ else _) = _
    rw [if_pos hs]
  have eC : ce_pc x n q D S = ce_bd (ce_pW x n (ce_sk x n q) (ce_we x n (ce_sk x n q)) D S) fun a => ce_bd (ce_stop x n a.1) fun z => .ok (z, a.2) := rfl
  have fI1 := ft fI f1
  have fJ1 : ∀ a j, a ≠ p + 10 → J1 a j = J0 a j := fun a j h => (g1 a j h).trans (fJ a j h)
  cases hW : ce_pW x n (ce_sk x n q) (ce_we x n (ce_sk x n q)) D S with
  | error b =>
    obtain ⟨fe, ge⟩ := b
    rw [hW] at hr eC
    replace hr : cf_Fl fe ge I1 := hr
    replace eC : ce_pc x n q D S = .error (fe, ge) := eC
    rw [eC] at eD
    replace eD : ce_pD x n (f + 1) q D S = .error (fe, ge) := eD
    rw [eD, cp_37f hr, cw_bv]
    refine cw_m (fun _ => cd_s38_63 hp) ?_
    exact cw_of (cp_38e hp hr) ⟨rfl, fI1, fJ1, hr⟩
  | ok b =>
    obtain ⟨e1, D1, S1⟩ := b
    obtain ⟨z1, z2, z3, z4⟩ := ce_pW_ok hO hwe.1 hwe.2 hW
    rw [hW] at hr eC
    obtain ⟨K1, P1⟩ : cf_K x n e1 I1 ∧ cf_PB D1 S1 p I1 J1 := hr
    replace eC : ce_pc x n q D S = ce_bd (ce_stop x n e1) fun z => .ok (z, D1, S1) := eC
    refine cw_cv (cw_mono (cp_37 hn hx K1 z2) ?_)
    intro v2 I2 J2 ⟨hv2, hJ2, f2, hr2⟩
    have hJ2 := hJ2.symm
    subst hJ2
    refine ⟨hv2, ?_⟩
    refine cw_m (fun _ => cd_s38_63 hp) ?_
    have fI2 : cf_fp p I0 I2 := ft fI1 (fun a k h1 _ => f2 a k h1)
    cases hst : ce_stop x n e1 with
    | error b =>
      obtain ⟨fe, ge⟩ := b
      rw [hst] at hr2 eC
      replace hr2 : cf_Fl fe ge I2 := hr2
      replace eC : ce_pc x n q D S = .error (fe, ge) := eC
      rw [eC] at eD
      replace eD : ce_pD x n (f + 1) q D S = .error (fe, ge) := eD
      rw [eD]
      exact cw_of (cp_38e hp hr2) ⟨rfl, fI2, fJ1, hr2⟩
    | ok z =>
      rw [hst] at hr2 eC
      replace hr2 : cf_K x n z I2 := hr2
      replace eC : ce_pc x n q D S = .ok (z, D1, S1) := eC
      rw [eC] at eD
      replace eD : ce_pD x n (f + 1) q D S = ce_pD x n f z D1 S1 := eD
      rw [eD]
      exact IH z D1 S1 I2 _ eC fI2 fJ1 hr2 (P1.of3 hp f2)
theorem cf_fp.f3 {I I1 I2 : Nat → Nat → Int32} (h : cf_fp p I I1) (g : cf_f3 I1 I2) : cf_fp p I I2 := fun a k h1 h2 => (g a k h1).trans (h a k h1 h2)
theorem cp_38l (hn : n ≤ 500) (hx : ∀ k, x k < 256) (hp : p = 66 ∨ p = 83) {I0 : Nat → Nat → Int32} {J0 : Nat → Nat → Int64} : ∀ (f q i : Nat) (D : cd_D) (S : cd_S) (I : Nat → Nat → Int32) (J : Nat → Nat → Int64) (v3 : Value), q ≤ n → i ≤ q → n < f + q → ce_okP D S → cf_K x n q I → cf_PB D S p I J → cf_fp p I0 I → (∀ a j, a ≠ p + 10 → J a j = J0 a j) → cw L w (cd_go 38 4 [.ref p, .ref 3, .int (nI i), v3] [] (cd_mm L w I J)) (cf_q38 p I0 J0 (ce_pD x n f q D S)) := by
  intro f
  induction f with
  | zero => intro q i D S I J v3 hq hi hf; omega
  | succ f ih =>
    intro q i D S I J v3 hq hi hf hO hK hP fI fJ
    have hsn := cf_sk_le (x := x) hq
    have hsq := cf_sk_ge (x := x) hq
    have hwe := cf_we_b (x := x) hsn
    refine cw_m (fun _ => cd_s38_4 hp) ?_
    have eD0 : ce_pD x n (f + 1) q D S = if ce_sk x n q < n then ce_bd (ce_pc x n q D S) fun a => ce_pD x n f a.1 a.2.1 a.2.2 else .ok (D, S) := rfl
    by_cases h5 : i < 500
    · rw [if_pos (show nI i < 500 from nI_lt (b := 500) h5 (by decide)), cp_19 hK hq, cw_bi]
      refine cw_m (fun _ => cd_s38_9 hp) ?_
      by_cases hs : ce_sk x n q < n
      · rw [decide_eq_true hs, if_neg (show ¬ cd_tf true = 0 by decide), hK.2.2.1]
        have IH : ∀ z D1 S1 I1 J1, ce_pc x n q D S = .ok (z, D1, S1) → cf_fp p I0 I1 → (∀ a j, a ≠ p + 10 → J1 a j = J0 a j) → cf_K x n z I1 → cf_PB D1 S1 p I1 J1 → cw L w (cd_go 38 4 [.ref p, .ref 3, .int (nI i + 1), .int (nI (ce_sk x n q))] [] (cd_mm L w I1 J1)) (cf_q38 p I0 J0 (ce_pD x n f z D1 S1)) := by
          intro z D1 S1 I1 J1 hc h1 h2 h3 h4
          obtain ⟨z1, z2, z3, z4⟩ := ce_pc_ok hO hq hc
          rw [nI_1]
          exact ih z (i + 1) D1 S1 I1 J1 _ z2 (by omega) (by omega) z3 h3 h4 h1 h2
        have ew : ce_cw x (ce_sk x n q) (ce_we x n (ce_sk x n q) - ce_sk x n q) = if cf_isw x n q (cd_str 1000).reverse then some 0 else if cf_isw x n q (cd_str 1001).reverse then some 1 else if cf_isw x n q (cd_str 1002).reverse then some 2 else if cf_isw x n q (cd_str 1008).reverse then some 3 else if cf_isw x n q (cd_str 1009).reverse then some 4 else none := rfl
        have eW : ∀ o, ce_cw x (ce_sk x n q) (ce_we x n (ce_sk x n q) - ce_sk x n q) = o → ce_pW x n (ce_sk x n q) (ce_we x n (ce_sk x n q)) D S = match o with
            | none => .error (1, ce_sk x n q)
            | some 0 => if D 0 0 = 8 then .error (4, ce_sk x n q) else ce_pT x n (ce_we x n (ce_sk x n q)) D S
            | some 1 => if D 0 1 = 3 then .error (4, ce_sk x n q) else ce_pC x n (ce_we x n (ce_sk x n q)) D S
            | some 2 => if D 0 2 = 12 then .error (4, ce_sk x n q) else ce_pH x n (ce_we x n (ce_sk x n q)) D S
            | some 3 => if D 0 18 = 1 then .error (3, ce_sk x n q) else ce_pL x n (ce_we x n (ce_sk x n q)) D S
            | some _ => ce_pR x n (ce_we x n (ce_sk x n q)) D S := fun o h => by
          rw [← h]
          rfl
        have d8 := hO.1.1.1
        have d3 := hO.1.1.2.1
        have d12 := hO.1.1.2.2.1
        have d18 := hO.2.2.2.2.2
        cases h0 : cf_isw x n q (cd_str 1000).reverse with
        | true =>
          rw [h0, if_pos rfl] at ew
          have eW := eW _ ew
          refine cw_ci (cw_mono (cp_21 hn hx hK hq (by decide) h0) ?_)
          intro v I1 J1 ⟨hv, hJ1, f1, K1⟩
          have hJ1 := hJ1.symm
          subst hJ1
          refine ⟨1, hv, ?_⟩
          refine cw_m (fun _ => cd_s38_16 hp) ?_
          rw [if_neg (show ¬ (1 : Int32) = 0 by decide)]
          refine cp_38c hn hx hp (fI.f3 f1) fJ hO hq hs IH ?_ (fun I2 J2 h => cw_m (fun _ => cd_s38_21 hp) h)
          rw [eW]
          show cw L w _ (cf_pq x n p I1 _ (if D 0 0 = 8 then .error (4, ce_sk x n q) else ce_pT x n (ce_we x n (ce_sk x n q)) D S))
          by_cases hd : D 0 0 = 8
          · rw [if_pos hd]
            exact cp_25x hp K1 (hP.of3 hp f1) hd
          · rw [if_neg hd]
            exact cp_25 hn hx hp K1 hwe.2 (hP.of3 hp f1) hO (by omega)
        | false =>
        rw [h0, if_neg (by decide)] at ew
        rw [cp_21n hn hx hK hq (by decide) h0, cw_bi]
        refine cw_m (fun _ => cd_s38_16 hp) ?_
        rw [if_pos rfl]
        cases h1 : cf_isw x n q (cd_str 1001).reverse with
        | true =>
          rw [h1, if_pos rfl] at ew
          have eW := eW _ ew
          refine cw_ci (cw_mono (cp_21 hn hx hK hq (by decide) h1) ?_)
          intro v I1 J1 ⟨hv, hJ1, f1, K1⟩
          have hJ1 := hJ1.symm
          subst hJ1
          refine ⟨1, hv, ?_⟩
          refine cw_m (fun _ => cd_s38_25 hp) ?_
          rw [if_neg (show ¬ (1 : Int32) = 0 by decide)]
          refine cp_38c hn hx hp (fI.f3 f1) fJ hO hq hs IH ?_ (fun I2 J2 h => cw_m (fun _ => cd_s38_30 hp) h)
          rw [eW]
          show cw L w _ (cf_pq x n p I1 _ (if D 0 1 = 3 then .error (4, ce_sk x n q) else ce_pC x n (ce_we x n (ce_sk x n q)) D S))
          by_cases hd : D 0 1 = 3
          · rw [if_pos hd]
            exact cp_27x hp K1 (hP.of3 hp f1) hd
          · rw [if_neg hd]
            exact cp_27 hn hx hp K1 hwe.2 (hP.of3 hp f1) (by omega)
        | false =>
        rw [h1, if_neg (by decide)] at ew
        rw [cp_21n hn hx hK hq (by decide) h1, cw_bi]
        refine cw_m (fun _ => cd_s38_25 hp) ?_
        rw [if_pos rfl]
        cases h2 : cf_isw x n q (cd_str 1002).reverse with
        | true =>
          rw [h2, if_pos rfl] at ew
          have eW := eW _ ew
          refine cw_ci (cw_mono (cp_21 hn hx hK hq (by decide) h2) ?_)
          intro v I1 J1 ⟨hv, hJ1, f1, K1⟩
          have hJ1 := hJ1.symm
          subst hJ1
          refine ⟨1, hv, ?_⟩
          refine cw_m (fun _ => cd_s38_34 hp) ?_
          rw [if_neg (show ¬ (1 : Int32) = 0 by decide)]
          refine cp_38c hn hx hp (fI.f3 f1) fJ hO hq hs IH ?_ (fun I2 J2 h => cw_m (fun _ => cd_s38_39 hp) h)
          rw [eW]
          show cw L w _ (cf_pq x n p I1 _ (if D 0 2 = 12 then .error (4, ce_sk x n q) else ce_pH x n (ce_we x n (ce_sk x n q)) D S))
          by_cases hd : D 0 2 = 12
          · rw [if_pos hd]
            exact cp_33x hp K1 (hP.of3 hp f1) hd
          · rw [if_neg hd]
            exact cp_33 hn hx hp K1 hwe.2 (hP.of3 hp f1) hO (by omega)
        | false =>
        rw [h2, if_neg (by decide)] at ew
        rw [cp_21n hn hx hK hq (by decide) h2, cw_bi]
        refine cw_m (fun _ => cd_s38_34 hp) ?_
        rw [if_pos rfl]
        cases h3 : cf_isw x n q (cd_str 1008).reverse with
        | true =>
          rw [h3, if_pos rfl] at ew
          have eW := eW _ ew
          refine cw_ci (cw_mono (cp_21 hn hx hK hq (by decide) h3) ?_)
          intro v I1 J1 ⟨hv, hJ1, f1, K1⟩
          have hJ1 := hJ1.symm
          subst hJ1
          refine ⟨1, hv, ?_⟩
          refine cw_m (fun _ => cd_s38_43 hp) ?_
          rw [if_neg (show ¬ (1 : Int32) = 0 by decide)]
          refine cp_38c hn hx hp (fI.f3 f1) fJ hO hq hs IH ?_ (fun I2 J2 h => cw_m (fun _ => cd_s38_48 hp) h)
          rw [eW]
          show cw L w _ (cf_pq x n p I1 _ (if D 0 18 = 1 then .error (3, ce_sk x n q) else ce_pL x n (ce_we x n (ce_sk x n q)) D S))
          by_cases hd : D 0 18 = 1
          · rw [if_pos hd]
            exact cp_34x hp K1 (hP.of3 hp f1) hd
          · rw [if_neg hd]
            exact cp_34 hn hx hp K1 hwe.2 (hP.of3 hp f1) (by omega)
        | false =>
        rw [h3, if_neg (by decide)] at ew
        rw [cp_21n hn hx hK hq (by decide) h3, cw_bi]
        refine cw_m (fun _ => cd_s38_43 hp) ?_
        rw [if_pos rfl]
        cases h4 : cf_isw x n q (cd_str 1009).reverse with
        | true =>
          rw [h4, if_pos rfl] at ew
          have eW := eW _ ew
          refine cw_ci (cw_mono (cp_21 hn hx hK hq (by decide) h4) ?_)
          intro v I1 J1 ⟨hv, hJ1, f1, K1⟩
          have hJ1 := hJ1.symm
          subst hJ1
          refine ⟨1, hv, ?_⟩
          refine cw_m (fun _ => cd_s38_52 hp) ?_
          rw [if_neg (show ¬ (1 : Int32) = 0 by decide)]
          refine cp_38c hn hx hp (fI.f3 f1) fJ hO hq hs IH ?_ (fun I2 J2 h => cw_m (fun _ => cd_s38_56 hp) h)
          rw [eW]
          exact cp_36 hn hx hp K1 hwe.2 (hP.of3 hp f1) hO
        | false =>
        rw [h4, if_neg (by decide)] at ew
        have eW := eW _ ew
        rw [cp_21n hn hx hK hq (by decide) h4, cw_bi]
        refine cw_m (fun _ => cd_s38_52 hp) ?_
        rw [if_pos rfl]
        refine cp_38c hn hx hp fI fJ hO hq hs IH ?_ (fun I2 J2 h => h)
        rw [eW, show (1 : Int32) = nI 1 from rfl, cp_22 hK.2.1.1]
        exact cw_ret ⟨rfl, fun a k h1 h2 => by rw [cd_up_k2 (by omega), cd_up_k2 (by omega)], fun _ _ _ => rfl, cf_bl (by decide) (by decide)⟩
      · rw [decide_eq_false hs, if_pos (show cd_tf false = 0 from rfl), eD0, if_neg hs]
        exact cw_ret ⟨rfl, fI, fJ, hK.2.1, hP⟩
    · rw [if_neg (show ¬ nI i < 500 from fun h => h5 ((nI_ltI (b := 500) (by omega) (by decide)).mp h)), eD0, if_neg (by omega)]
      exact cw_ret ⟨rfl, fI, fJ, hK.2.1, hP⟩
theorem cp_38 (hn : n ≤ 500) (hx : ∀ k, x k < 256) (hp : p = 66 ∨ p = 83) (hK : cf_K x n 0 I) {r : Nat} (hr : r < 2 ^ 31) : cw L w (cd_c 38 [.ref p, .ref 3] (cd_mm L w I J)) (cf_q38 p I J (ce_pD x n (n + 1) 0 ce_D0 (ce_S0 r))) := by
  refine cw_c (l := [.ref p, .ref 3, .null, .null]) (by rcases hp with rfl | rfl <;> rfl) (by rcases hp with rfl | rfl <;> rfl) ?_
  refine cw_m (fun _ => cd_s38_0 hp) ?_
  refine cw_cv (cw_mono (cp_18 hp (r := r)) ?_)
  intro v I1 J1 ⟨hv, hJ1, f1, P1⟩
  have hJ1 := hJ1.symm
  subst hJ1
  refine ⟨hv, ?_⟩
  refine cw_m (fun _ => cd_s38_2 hp) ?_
  exact cp_38l hn hx hp (n + 1) 0 0 _ _ I1 _ .null (Nat.zero_le _) (Nat.le_refl _) (by omega) (ce_okP0 hr) (hK.of (fun a k h => f1 a k (by omega))) P1 (fun a k h1 h2 => f1 a k h2) (fun _ _ _ => rfl)
end CDN
