/-! ===== the reference: orders that lead ===== -/
/-- m can be done to its end, one by one, each time standing as F says -/
def ce_ld (F : Nat → Bool) (n : Nat) : Nat → Nat → Bool
  | 0, m => decide (m = 0)
  | f + 1, m => decide (m = 0) || ce_any (fun k => m.testBit k && (F (m ^^^ 2 ^ k) && ce_ld F n f (m ^^^ 2 ^ k))) n
def ce_gg (F : Nat → Bool) (n m : Nat) : Bool := ce_ld F n (fa_cnt (fun k => m.testBit k) n) m
def ce_op (F : Nat → Bool) (n m k : Nat) : Bool := m.testBit k && (F (m ^^^ 2 ^ k) && ce_gg F n (m ^^^ 2 ^ k))
theorem ce_xtb {m k j : Nat} : (m ^^^ 2 ^ k).testBit j = (m.testBit j ^^ decide (k = j)) := by rw [Nat.testBit_xor, ce_2tb]
theorem ce_cnt_eq {p q : Nat → Bool} {n : Nat} (h : ∀ k, k < n → p k = q k) : fa_cnt p n = fa_cnt q n := fa_cnt_cong h
theorem ce_cnt_flip {m k : Nat} (hm : m.testBit k = true) : ∀ n, k < n → fa_cnt (fun j => (m ^^^ 2 ^ k).testBit j) n + 1 = fa_cnt (fun j => m.testBit j) n := by
  intro n
  induction n with
  | zero => intro h; omega
  | succ n ih =>
    intro hk
    rw [ce_cnt_s, ce_cnt_s]
    by_cases hkn : k = n
    · subst hkn
      rw [ce_xtb, hm, decide_eq_true rfl, ce_cnt_eq (q := fun j => m.testBit j) (fun j hj => by rw [ce_xtb, decide_eq_false (show ¬ k = j by omega), Bool.xor_false])]
      rfl
    · have := ih (by omega)
      rw [ce_xtb, decide_eq_false hkn, Bool.xor_false]
      omega
theorem ce_cnt_0 {m : Nat} : ∀ n, m < 2 ^ n → fa_cnt (fun j => m.testBit j) n = 0 → m = 0 := by
  intro n hm h
  refine Nat.eq_of_testBit_eq (fun j => ?_)
  rw [Nat.zero_testBit]
  by_cases hj : j < n
  · have key : ∀ n, fa_cnt (fun j => m.testBit j) n = 0 → ∀ j, j < n → m.testBit j = false := by
      intro n
      induction n with
      | zero => intro _ j hj; omega
      | succ n ih =>
        intro h j hj
        rw [ce_cnt_s] at h
        by_cases hjn : j = n
        · subst hjn
          cases hb : m.testBit j with
          | false => rfl
          | true => rw [hb, if_pos rfl] at h; omega
        · exact ih (by omega) j (by omega)
    exact key n h j hj
  · rw [Nat.testBit_lt_two_pow (Nat.lt_of_lt_of_le hm (Nat.pow_le_pow_right (by decide) (by omega)))]
theorem ce_any_cong {p q : Nat → Bool} : ∀ n, (∀ k, k < n → p k = q k) → ce_any p n = ce_any q n := by
  intro n
  induction n with
  | zero => intro _; rfl
  | succ n ih =>
    intro h
    rw [ce_any_s, ce_any_s, h n (by omega), ih (fun k hk => h k (by omega))]
theorem ce_xlt {m k n : Nat} (hm : m < 2 ^ n) (hk : k < n) : m ^^^ 2 ^ k < 2 ^ n := Nat.xor_lt_two_pow hm (Nat.pow_lt_pow_right (by decide) hk)
theorem ce_gg_eq {F : Nat → Bool} {n m : Nat} (hm : m < 2 ^ n) : ce_gg F n m = (decide (m = 0) || ce_any (ce_op F n m) n) := by
  cases hc : fa_cnt (fun k => m.testBit k) n with
  | zero =>
    have h0 := ce_cnt_0 n hm hc
    unfold ce_gg
    rw [hc, h0]
    rfl
  | succ c =>
    have e : ce_gg F n m = (decide (m = 0) || ce_any (fun k => m.testBit k && (F (m ^^^ 2 ^ k) && ce_ld F n c (m ^^^ 2 ^ k))) n) := by
      unfold ce_gg
      rw [hc]
      rfl
    rw [e]
    congr 1
    refine ce_any_cong n (fun k hk => ?_)
    unfold ce_op
    cases hb : m.testBit k with
    | false => rfl
    | true =>
      have := ce_cnt_flip hb n hk
      unfold ce_gg
      rw [show fa_cnt (fun j => (m ^^^ 2 ^ k).testBit j) n = c by omega]
/-- what is still to do: to put up, or to take away -/
def ce_tdo (dn : Bool) (all set : Nat) : Nat := if dn then set else ce_an all set
theorem ce_tdo_x {dn : Bool} {all set k : Nat} (ha : all.testBit k = true) : ce_tdo dn all (set ^^^ 2 ^ k) = ce_tdo dn all set ^^^ 2 ^ k := by
  unfold ce_tdo
  cases dn with
  | true => rfl
  | false =>
    refine Nat.eq_of_testBit_eq (fun j => ?_)
    show (ce_an all (set ^^^ 2 ^ k)).testBit j = (ce_an all set ^^^ 2 ^ k).testBit j
    rw [ce_an_tb, ce_xtb, ce_xtb, ce_an_tb]
    by_cases hj : k = j
    · subst hj
      rw [ha, decide_eq_true rfl]
      cases set.testBit k <;> rfl
    · rw [decide_eq_false hj]
      cases all.testBit j <;> cases set.testBit j <;> rfl
theorem ce_an0 {a b : Nat} : ce_an a b = 0 ↔ ∀ k, a.testBit k = true → b.testBit k = true := by
  constructor
  · intro h k hk
    have := ce_an_tb a b k
    rw [h, Nat.zero_testBit, hk] at this
    cases hb : b.testBit k with
    | true => rfl
    | false => rw [hb] at this; cases this
  · intro h
    refine Nat.eq_of_testBit_eq (fun k => ?_)
    rw [ce_an_tb, Nat.zero_testBit]
    cases ha : a.testBit k with
    | false => rfl
    | true => rw [h k ha]; rfl
theorem ce_tdo_sub {dn : Bool} {all set k : Nat} (hs : ce_an set all = 0) (h : (ce_tdo dn all set).testBit k = true) : all.testBit k = true := by
  unfold ce_tdo at h
  cases dn with
  | true => exact ce_an0.mp hs k h
  | false =>
    replace h : (ce_an all set).testBit k = true := h
    rw [ce_an_tb, Bool.and_eq_true] at h
    exact h.1
theorem ce_sub_x {all set k : Nat} (hs : ce_an set all = 0) (ha : all.testBit k = true) : ce_an (set ^^^ 2 ^ k) all = 0 := by
  rw [ce_an0] at hs ⊢
  intro j hj
  by_cases hkj : k = j
  · rw [← hkj]; exact ha
  · rw [ce_xtb, decide_eq_false hkj, Bool.xor_false] at hj
    exact hs j hj
theorem ce_msk_flip {f g : Nat → Bool} {k : Nat} (hf : f k = false) (hg : g k = true) (h : ∀ j, j ≠ k → f j = g j) : ∀ n, k < n → ce_msk g n = ce_msk f n + 2 ^ k := by
  intro n
  induction n with
  | zero => intro hk; omega
  | succ n ih =>
    intro hk
    rw [ce_msk_s, ce_msk_s]
    by_cases hkn : k = n
    · subst hkn
      rw [hf, hg, if_pos rfl, if_neg (by decide), ce_msk_cong (g := g) k (fun j hj => h j (by omega))]
      omega
    · rw [ih (by omega), h n (fun q => hkn q.symm)]
      omega
theorem ce_xor_add {m k : Nat} (h : m.testBit k = false) : m ^^^ 2 ^ k = m + 2 ^ k := by
  have h1 : m < 2 ^ (m + k + 1) := Nat.lt_of_lt_of_le Nat.lt_two_pow_self (Nat.pow_le_pow_right (by decide) (by omega))
  have h2 := ce_xlt h1 (show k < m + k + 1 by omega)
  have h3 := ce_msk_flip (f := fun j => m.testBit j) (g := fun j => (m ^^^ 2 ^ k).testBit j) (k := k) h (by rw [ce_xtb, h, decide_eq_true rfl]; rfl) (fun j hj => by rw [ce_xtb, decide_eq_false (fun q => hj q.symm), Bool.xor_false]) (m + k + 1) (by omega)
  rw [ce_msk_id h1, ce_msk_id h2] at h3
  exact h3
theorem ce_xor_gt {m k : Nat} (h : m.testBit k = false) : m < m ^^^ 2 ^ k := by
  rw [ce_xor_add h]
  have : 0 < 2 ^ k := Nat.pow_pos (by decide)
  omega
theorem ce_xor_xor {m k : Nat} : m ^^^ 2 ^ k ^^^ 2 ^ k = m := by rw [Nat.xor_assoc, Nat.xor_self, Nat.xor_zero]
theorem ce_xor_lt {m k : Nat} (h : m.testBit k = true) : m ^^^ 2 ^ k < m := by
  have h2 := ce_xor_gt (m := m ^^^ 2 ^ k) (k := k) (by rw [ce_xtb, h, decide_eq_true rfl]; rfl)
  rw [ce_xor_xor] at h2
  exact h2
theorem ce_tdo_lt {dn : Bool} {all set n : Nat} (ha : all < 2 ^ n) (hs : set < 2 ^ n) : ce_tdo dn all set < 2 ^ n := by
  unfold ce_tdo
  have := ce_an_le all set
  cases dn with
  | true => exact hs
  | false => exact Nat.lt_of_le_of_lt this ha
section CEZ
variable {L : Nat} {w : Bool} {I : Nat → Nat → Int32} {J : Nat → Nat → Int64} {D : cd_D} {S : cd_S}
variable {Y : ce_Y} {T : cd_S}
def ce_led (F : Nat → Bool) (n : Nat) (dn : Bool) (all : Nat) (I : Nat → Nat → Int32) (set : Nat) : Prop := I 128 set = cd_tf (ce_gg F n (ce_tdo dn all set))
/-- the inner loop: what a set's steps lead to -/
theorem cp_227I (h12 : D 0 2 ≤ 12) (hR : cd_refD D I) {F : Nat → Bool} {dn : Bool} {all set i : Nat} {x3 : Int32} {Q : Option Value → (Nat → Nat → Int32) → (Nat → Nat → Int64) → Prop} (ha : all < 2 ^ D 0 2) (hs : set < 2 ^ D 0 2) (hsub : ce_an set all = 0) (hi : i < 2 ^ 20) (hn : ∀ k, k < D 0 2 → (ce_tdo dn all set).testBit k = true → I 127 (set ^^^ 2 ^ k) = cd_tf (F (ce_tdo dn all set ^^^ 2 ^ k)) ∧ I 128 (set ^^^ 2 ^ k) = cd_tf (ce_gg F (D 0 2) (ce_tdo dn all set ^^^ 2 ^ k))) (K : ∀ u5 u6 u7 u8, cw L w (cd_go 227 7 [.ref 100, .int (nI all), .int (cd_tf dn), .int x3, .int (nI (i + 1)), u5, u6, u7, u8] [] (cd_mm L w (cd_up I 128 set (cd_tf (ce_gg F (D 0 2) (ce_tdo dn all set)))) J)) Q) {w8 : Value} : cw L w (cd_go 227 39 [.ref 100, .int (nI all), .int (cd_tf dn), .int x3, .int (nI i), .int (nI set), .int (cd_tf (decide (ce_tdo dn all set = 0))), .int 0, w8] [] (cd_mm L w I J)) Q := by
  have h2p := ce_pw h12
  have htl := ce_tdo_lt (dn := dn) ha hs
  have hg := ce_gg_eq (F := F) htl
  have hr9 := hR.1.2.2.1
  refine cw_up (fun k (s : Bool × Value) => cd_go 227 39 [.ref 100, .int (nI all), .int (cd_tf dn), .int x3, .int (nI i), .int (nI set), .int (cd_tf s.1), .int (nI k), s.2] [] (cd_mm L w I J)) (fun k s => s.1 = (decide (ce_tdo dn all set = 0) || ce_any (ce_op F (D 0 2) (ce_tdo dn all set)) k)) (D 0 2) ?_ ?_ 0 (decide (ce_tdo dn all set = 0), w8) (by omega) (by rw [show ce_any (ce_op F (D 0 2) (ce_tdo dn all set)) 0 = false from rfl, Bool.or_false])
  · intro ⟨b, u⟩ hb
    replace hb : b = (decide (ce_tdo dn all set = 0) || ce_any (ce_op F (D 0 2) (ce_tdo dn all set)) (D 0 2)) := hb
    rw [← hg] at hb
    subst hb
    refine cw_m (fun _ => cd_s227_39) ?_
    simp (disch := omega) only [cw_l0, cw_l1, cw_l2, cw_l3, cw_l4, cw_l5, cw_l6, cw_l7, cw_l8, cw_l9, cw_l10, cw_l11, cw_l12, cw_l13, cw_l14, cw_l15, cw_l16, cw_l17, cw_l18, cw_l19, cw_l20, cw_l27, cw_l28, cw_l31, cw_l32, cw_l40, cw_l52, cw_l60, cw_l61, cw_l63, cw_l64, cw_l80, cw_l97, cw_l99, cw_l100, cw_l255, cw_l500, cw_l999, cw_l65536, cd_inN, nI_clamp, nI_add, pk_mul, cw_subc, cw_zz, pk_div, cw_ltN, cw_eqN, cw_tf0, cw_tf1, cw_tfa, cw_bi, cw_bl, cw_bv, if_true, if_false, Bool.false_eq_true, Bool.true_eq_false, ite_self, cw_neg1, cw_m1a, cw_ztl, cw_zeq, cw_zadd, cw_znadd, cw_nzadd, cw_zsub, cw_zmul, cw_znmul, cw_nzmul, cw_ltNZ, cw_eqZN, cw_eqNZ, cw_ltZN, cw_on, cw_os, cw_c0, cw_c1, cw_c2, cw_c3, cw_c4, cw_c5, cw_c8, cw_c10, cw_c40, cw_c80, cw_c100, cp_144z, cp_140n, cw_mabs, cw_mod8, decide_eq_true_eq, not_false_eq_true, not_true_eq_false, true_and, and_true, false_and, and_false, decide_eq_false_iff_not, Nat.not_lt, Nat.not_le, if_pos, if_neg, hr9]
    exact K _ _ _ _
  · intro k ⟨b, u⟩ hk hb K2
    replace hb : b = (decide (ce_tdo dn all set = 0) || ce_any (ce_op F (D 0 2) (ce_tdo dn all set)) k) := hb
    cases b with
    | true =>
      have : ce_gg F (D 0 2) (ce_tdo dn all set) = true := by
        rw [hg, Bool.or_eq_true]
        rcases (Bool.or_eq_true _ _).mp hb.symm with h | h
        · exact Or.inl h
        · obtain ⟨j, hj, hp⟩ := ce_any_t.mp h
          exact Or.inr (ce_any_t.mpr ⟨j, by omega, hp⟩)
      rw [this] at K
      refine cw_m (fun _ => cd_s227_39) ?_
      simp (disch := omega) only [cw_l0, cw_l1, cw_l2, cw_l3, cw_l4, cw_l5, cw_l6, cw_l7, cw_l8, cw_l9, cw_l10, cw_l11, cw_l12, cw_l13, cw_l14, cw_l15, cw_l16, cw_l17, cw_l18, cw_l19, cw_l20, cw_l27, cw_l28, cw_l31, cw_l32, cw_l40, cw_l52, cw_l60, cw_l61, cw_l63, cw_l64, cw_l80, cw_l97, cw_l99, cw_l100, cw_l255, cw_l500, cw_l999, cw_l65536, cd_inN, nI_clamp, nI_add, pk_mul, cw_subc, cw_zz, pk_div, cw_ltN, cw_eqN, cw_tf0, cw_tf1, cw_tfa, cw_bi, cw_bl, cw_bv, if_true, if_false, Bool.false_eq_true, Bool.true_eq_false, ite_self, cw_neg1, cw_m1a, cw_ztl, cw_zeq, cw_zadd, cw_znadd, cw_nzadd, cw_zsub, cw_zmul, cw_znmul, cw_nzmul, cw_ltNZ, cw_eqZN, cw_eqNZ, cw_ltZN, cw_on, cw_os, cw_c0, cw_c1, cw_c2, cw_c3, cw_c4, cw_c5, cw_c8, cw_c10, cw_c40, cw_c80, cw_c100, cp_144z, cp_140n, cw_mabs, cw_mod8, decide_eq_true_eq, not_false_eq_true, not_true_eq_false, true_and, and_true, false_and, and_false, decide_eq_false_iff_not, Nat.not_lt, Nat.not_le, if_pos, if_neg, hr9]
      exact K _ _ _ _
    | false =>
      have K2 : ∀ b u, b = ce_op F (D 0 2) (ce_tdo dn all set) k → cw L w (cd_go 227 39 [.ref 100, .int (nI all), .int (cd_tf dn), .int x3, .int (nI i), .int (nI set), .int (cd_tf b), .int (nI (k + 1)), u] [] (cd_mm L w I J)) Q := fun b u h => K2 (b, u) (by
        show b = (decide (ce_tdo dn all set = 0) || ce_any (ce_op F (D 0 2) (ce_tdo dn all set)) (k + 1))
        rw [ce_any_s, ← Bool.or_assoc, ← hb, Bool.false_or, h])
      have tail : cw L w (cd_go 227 58 [.ref 100, .int (nI all), .int (cd_tf dn), .int x3, .int (nI i), .int (nI set), .int (cd_tf false), .int (nI k), u] [.int (cd_tf ((ce_tdo dn all set).testBit k))] (cd_mm L w I J)) Q := by
        refine cw_m (fun _ => cd_s227_58) ?_
        cases ht : (ce_tdo dn all set).testBit k with
        | false =>
          simp (disch := omega) only [cw_l0, cw_l1, cw_l2, cw_l3, cw_l4, cw_l5, cw_l6, cw_l7, cw_l8, cw_l9, cw_l10, cw_l11, cw_l12, cw_l13, cw_l14, cw_l15, cw_l16, cw_l17, cw_l18, cw_l19, cw_l20, cw_l27, cw_l28, cw_l31, cw_l32, cw_l40, cw_l52, cw_l60, cw_l61, cw_l63, cw_l64, cw_l80, cw_l97, cw_l99, cw_l100, cw_l255, cw_l500, cw_l999, cw_l65536, cd_inN, nI_clamp, nI_add, pk_mul, cw_subc, cw_zz, pk_div, cw_ltN, cw_eqN, cw_tf0, cw_tf1, cw_tfa, cw_bi, cw_bl, cw_bv, if_true, if_false, Bool.false_eq_true, Bool.true_eq_false, ite_self, cw_neg1, cw_m1a, cw_ztl, cw_zeq, cw_zadd, cw_znadd, cw_nzadd, cw_zsub, cw_zmul, cw_znmul, cw_nzmul, cw_ltNZ, cw_eqZN, cw_eqNZ, cw_ltZN, cw_on, cw_os, cw_c0, cw_c1, cw_c2, cw_c3, cw_c4, cw_c5, cw_c8, cw_c10, cw_c40, cw_c80, cw_c100, cp_144z, cp_140n, cw_mabs, cw_mod8, decide_eq_true_eq, not_false_eq_true, not_true_eq_false, true_and, and_true, false_and, and_false, decide_eq_false_iff_not, Nat.not_lt, Nat.not_le]
          exact K2 false _ (by unfold ce_op; rw [ht]; rfl)
        | true =>
          obtain ⟨g1, g2⟩ := hn k hk ht
          have hxl := ce_xlt hs hk
          cases q1 : F (ce_tdo dn all set ^^^ 2 ^ k) with
          | false =>
            simp (disch := omega) only [cw_l0, cw_l1, cw_l2, cw_l3, cw_l4, cw_l5, cw_l6, cw_l7, cw_l8, cw_l9, cw_l10, cw_l11, cw_l12, cw_l13, cw_l14, cw_l15, cw_l16, cw_l17, cw_l18, cw_l19, cw_l20, cw_l27, cw_l28, cw_l31, cw_l32, cw_l40, cw_l52, cw_l60, cw_l61, cw_l63, cw_l64, cw_l80, cw_l97, cw_l99, cw_l100, cw_l255, cw_l500, cw_l999, cw_l65536, cd_inN, nI_clamp, nI_add, pk_mul, cw_subc, cw_zz, pk_div, cw_ltN, cw_eqN, cw_tf0, cw_tf1, cw_tfa, cw_bi, cw_bl, cw_bv, if_true, if_false, Bool.false_eq_true, Bool.true_eq_false, ite_self, cw_neg1, cw_m1a, cw_ztl, cw_zeq, cw_zadd, cw_znadd, cw_nzadd, cw_zsub, cw_zmul, cw_znmul, cw_nzmul, cw_ltNZ, cw_eqZN, cw_eqNZ, cw_ltZN, cw_on, cw_os, cw_c0, cw_c1, cw_c2, cw_c3, cw_c4, cw_c5, cw_c8, cw_c10, cw_c40, cw_c80, cw_c100, cp_144z, cp_140n, cw_mabs, cw_mod8, decide_eq_true_eq, not_false_eq_true, not_true_eq_false, true_and, and_true, false_and, and_false, decide_eq_false_iff_not, Nat.not_lt, Nat.not_le, if_pos, if_neg, cw_sh1, cw_xor, g1, q1]
            exact K2 false _ (by unfold ce_op; rw [ht, q1]; rfl)
          | true =>
            cases q2 : ce_gg F (D 0 2) (ce_tdo dn all set ^^^ 2 ^ k) with
            | false =>
              simp (disch := omega) only [cw_l0, cw_l1, cw_l2, cw_l3, cw_l4, cw_l5, cw_l6, cw_l7, cw_l8, cw_l9, cw_l10, cw_l11, cw_l12, cw_l13, cw_l14, cw_l15, cw_l16, cw_l17, cw_l18, cw_l19, cw_l20, cw_l27, cw_l28, cw_l31, cw_l32, cw_l40, cw_l52, cw_l60, cw_l61, cw_l63, cw_l64, cw_l80, cw_l97, cw_l99, cw_l100, cw_l255, cw_l500, cw_l999, cw_l65536, cd_inN, nI_clamp, nI_add, pk_mul, cw_subc, cw_zz, pk_div, cw_ltN, cw_eqN, cw_tf0, cw_tf1, cw_tfa, cw_bi, cw_bl, cw_bv, if_true, if_false, Bool.false_eq_true, Bool.true_eq_false, ite_self, cw_neg1, cw_m1a, cw_ztl, cw_zeq, cw_zadd, cw_znadd, cw_nzadd, cw_zsub, cw_zmul, cw_znmul, cw_nzmul, cw_ltNZ, cw_eqZN, cw_eqNZ, cw_ltZN, cw_on, cw_os, cw_c0, cw_c1, cw_c2, cw_c3, cw_c4, cw_c5, cw_c8, cw_c10, cw_c40, cw_c80, cw_c100, cp_144z, cp_140n, cw_mabs, cw_mod8, decide_eq_true_eq, not_false_eq_true, not_true_eq_false, true_and, and_true, false_and, and_false, decide_eq_false_iff_not, Nat.not_lt, Nat.not_le, if_pos, if_neg, cw_sh1, cw_xor, g1, q1, g2, q2]
              exact K2 false _ (by unfold ce_op; rw [ht, q1, q2]; rfl)
            | true =>
              simp (disch := omega) only [cw_l0, cw_l1, cw_l2, cw_l3, cw_l4, cw_l5, cw_l6, cw_l7, cw_l8, cw_l9, cw_l10, cw_l11, cw_l12, cw_l13, cw_l14, cw_l15, cw_l16, cw_l17, cw_l18, cw_l19, cw_l20, cw_l27, cw_l28, cw_l31, cw_l32, cw_l40, cw_l52, cw_l60, cw_l61, cw_l63, cw_l64, cw_l80, cw_l97, cw_l99, cw_l100, cw_l255, cw_l500, cw_l999, cw_l65536, cd_inN, nI_clamp, nI_add, pk_mul, cw_subc, cw_zz, pk_div, cw_ltN, cw_eqN, cw_tf0, cw_tf1, cw_tfa, cw_bi, cw_bl, cw_bv, if_true, if_false, Bool.false_eq_true, Bool.true_eq_false, ite_self, cw_neg1, cw_m1a, cw_ztl, cw_zeq, cw_zadd, cw_znadd, cw_nzadd, cw_zsub, cw_zmul, cw_znmul, cw_nzmul, cw_ltNZ, cw_eqZN, cw_eqNZ, cw_ltZN, cw_on, cw_os, cw_c0, cw_c1, cw_c2, cw_c3, cw_c4, cw_c5, cw_c8, cw_c10, cw_c40, cw_c80, cw_c100, cp_144z, cp_140n, cw_mabs, cw_mod8, decide_eq_true_eq, not_false_eq_true, not_true_eq_false, true_and, and_true, false_and, and_false, decide_eq_false_iff_not, Nat.not_lt, Nat.not_le, if_pos, if_neg, cw_sh1, cw_xor, g1, q1, g2, q2]
              exact K2 true _ (by unfold ce_op; rw [ht, q1, q2]; rfl)
      have c0 := cp_139n (L := L) (w := w) (I := I) (J := J) (h := ce_tdo dn all set) (k := k) (by omega) (by omega)
      refine cw_m (fun _ => cd_s227_39) ?_
      cases dn with
      | true =>
        rw [show ce_tdo true all set = set from rfl] at c0 tail
        simp (disch := omega) only [cw_l0, cw_l1, cw_l2, cw_l3, cw_l4, cw_l5, cw_l6, cw_l7, cw_l8, cw_l9, cw_l10, cw_l11, cw_l12, cw_l13, cw_l14, cw_l15, cw_l16, cw_l17, cw_l18, cw_l19, cw_l20, cw_l27, cw_l28, cw_l31, cw_l32, cw_l40, cw_l52, cw_l60, cw_l61, cw_l63, cw_l64, cw_l80, cw_l97, cw_l99, cw_l100, cw_l255, cw_l500, cw_l999, cw_l65536, cd_inN, nI_clamp, nI_add, pk_mul, cw_subc, cw_zz, pk_div, cw_ltN, cw_eqN, cw_tf0, cw_tf1, cw_tfa, cw_bi, cw_bl, cw_bv, if_true, if_false, Bool.false_eq_true, Bool.true_eq_false, ite_self, cw_neg1, cw_m1a, cw_ztl, cw_zeq, cw_zadd, cw_znadd, cw_nzadd, cw_zsub, cw_zmul, cw_znmul, cw_nzmul, cw_ltNZ, cw_eqZN, cw_eqNZ, cw_ltZN, cw_on, cw_os, cw_c0, cw_c1, cw_c2, cw_c3, cw_c4, cw_c5, cw_c8, cw_c10, cw_c40, cw_c80, cw_c100, cp_144z, cp_140n, cw_mabs, cw_mod8, decide_eq_true_eq, not_false_eq_true, not_true_eq_false, true_and, and_true, false_and, and_false, decide_eq_false_iff_not, Nat.not_lt, Nat.not_le, if_pos, if_neg, hr9, c0]
        refine cw_m (fun _ => cd_s227_50) ?_
        exact tail
      | false =>
        rw [show ce_tdo false all set = ce_an all set from rfl] at c0 tail
        simp (disch := omega) only [cw_l0, cw_l1, cw_l2, cw_l3, cw_l4, cw_l5, cw_l6, cw_l7, cw_l8, cw_l9, cw_l10, cw_l11, cw_l12, cw_l13, cw_l14, cw_l15, cw_l16, cw_l17, cw_l18, cw_l19, cw_l20, cw_l27, cw_l28, cw_l31, cw_l32, cw_l40, cw_l52, cw_l60, cw_l61, cw_l63, cw_l64, cw_l80, cw_l97, cw_l99, cw_l100, cw_l255, cw_l500, cw_l999, cw_l65536, cd_inN, nI_clamp, nI_add, pk_mul, cw_subc, cw_zz, pk_div, cw_ltN, cw_eqN, cw_tf0, cw_tf1, cw_tfa, cw_bi, cw_bl, cw_bv, if_true, if_false, Bool.false_eq_true, Bool.true_eq_false, ite_self, cw_neg1, cw_m1a, cw_ztl, cw_zeq, cw_zadd, cw_znadd, cw_nzadd, cw_zsub, cw_zmul, cw_znmul, cw_nzmul, cw_ltNZ, cw_eqZN, cw_eqNZ, cw_ltZN, cw_on, cw_os, cw_c0, cw_c1, cw_c2, cw_c3, cw_c4, cw_c5, cw_c8, cw_c10, cw_c40, cw_c80, cw_c100, cp_144z, cp_140n, cw_mabs, cw_mod8, decide_eq_true_eq, not_false_eq_true, not_true_eq_false, true_and, and_true, false_and, and_false, decide_eq_false_iff_not, Nat.not_lt, Nat.not_le, if_pos, if_neg, hr9, cw_andn, c0]
        exact tail
theorem cp_227 (h12 : D 0 2 ≤ 12) (hR : cd_refD D I) {F : Nat → Bool} {dn : Bool} {all : Nat} (ha : all < 2 ^ D 0 2) (hF : ∀ set, set < 2 ^ D 0 2 → ce_an set all = 0 → I 127 set = cd_tf (F (ce_tdo dn all set))) : cw L w (cd_c 227 [.ref 100, .int (nI all), .int (cd_tf dn)] (cd_mm L w I J)) (fun v I1 J1 => v = none ∧ J1 = J ∧ (∀ a k, a ≠ 128 → I1 a k = I a k) ∧ ∀ set, set < 2 ^ D 0 2 → ce_an set all = 0 → ce_led F (D 0 2) dn all I1 set) := by
  have h2p := ce_pw h12
  have hp0 : 0 < 2 ^ D 0 2 := Nat.pow_pos (by decide)
  refine cw_c (l := [_, _, _, _, _, _, _, _, _]) rfl rfl ?_
  refine cw_m (fun _ => cd_s227_0) ?_
  simp (disch := omega) only [cw_l0, cw_l1, cw_l2, cw_l3, cw_l4, cw_l5, cw_l6, cw_l7, cw_l8, cw_l9, cw_l10, cw_l11, cw_l12, cw_l13, cw_l14, cw_l15, cw_l16, cw_l17, cw_l18, cw_l19, cw_l20, cw_l27, cw_l28, cw_l31, cw_l32, cw_l40, cw_l52, cw_l60, cw_l61, cw_l63, cw_l64, cw_l80, cw_l97, cw_l99, cw_l100, cw_l255, cw_l500, cw_l999, cw_l65536, cd_inN, nI_clamp, nI_add, pk_mul, cw_subc, cw_zz, pk_div, cw_ltN, cw_eqN, cw_tf0, cw_tf1, cw_tfa, cw_bi, cw_bl, cw_bv, if_true, if_false, Bool.false_eq_true, Bool.true_eq_false, ite_self, cw_neg1, cw_m1a, cw_ztl, cw_zeq, cw_zadd, cw_znadd, cw_nzadd, cw_zsub, cw_zmul, cw_znmul, cw_nzmul, cw_ltNZ, cw_eqZN, cw_eqNZ, cw_ltZN, cw_on, cw_os, cw_c0, cw_c1, cw_c2, cw_c3, cw_c4, cw_c5, cw_c8, cw_c10, cw_c40, cw_c80, cw_c100, cp_144z, cp_140n, cw_mabs, cw_mod8, decide_eq_true_eq, not_false_eq_true, not_true_eq_false, true_and, and_true, false_and, and_false, decide_eq_false_iff_not, Nat.not_lt, Nat.not_le, if_pos, if_neg, hR.1.2.2.1, cw_sh1]
  -- which sets are done after i of them
  have key : ∀ (st : Nat → Nat), (∀ i, i < 2 ^ D 0 2 → st i = if dn then i else 2 ^ D 0 2 - 1 - i) → cw L w (cd_go 227 7 [.ref 100, .int (nI all), .int (cd_tf dn), .int (nI (2 ^ D 0 2)), .int (nI 0), .null, .null, .null, .null] [] (cd_mm L w I J)) (fun v I1 J1 => v = none ∧ J1 = J ∧ (∀ a k, a ≠ 128 → I1 a k = I a k) ∧ ∀ set, set < 2 ^ D 0 2 → ce_an set all = 0 → ce_led F (D 0 2) dn all I1 set) := by
    intro st hst
    refine cw_up (fun i (s : (Nat → Nat → Int32) × Value × Value × Value × Value) => cd_go 227 7 [.ref 100, .int (nI all), .int (cd_tf dn), .int (nI (2 ^ D 0 2)), .int (nI i), s.2.1, s.2.2.1, s.2.2.2.1, s.2.2.2.2] [] (cd_mm L w s.1 J)) (fun i s => (∀ a k, a ≠ 128 → s.1 a k = I a k) ∧ ∀ j, j < i → ce_an (st j) all = 0 → ce_led F (D 0 2) dn all s.1 (st j)) (2 ^ D 0 2) ?_ ?_ 0 (I, .null, .null, .null, .null) (by omega) ⟨fun _ _ _ => rfl, fun j hj => by omega⟩
    · intro ⟨I1, u5, u6, u7, u8⟩ ⟨f1, a1⟩
      replace a1 : ∀ j, j < 2 ^ D 0 2 → ce_an (st j) all = 0 → ce_led F (D 0 2) dn all I1 (st j) := a1
      refine cw_m (fun _ => cd_s227_7) ?_
      simp (disch := omega) only [cw_l0, cw_l1, cw_l2, cw_l3, cw_l4, cw_l5, cw_l6, cw_l7, cw_l8, cw_l9, cw_l10, cw_l11, cw_l12, cw_l13, cw_l14, cw_l15, cw_l16, cw_l17, cw_l18, cw_l19, cw_l20, cw_l27, cw_l28, cw_l31, cw_l32, cw_l40, cw_l52, cw_l60, cw_l61, cw_l63, cw_l64, cw_l80, cw_l97, cw_l99, cw_l100, cw_l255, cw_l500, cw_l999, cw_l65536, cd_inN, nI_clamp, nI_add, pk_mul, cw_subc, cw_zz, pk_div, cw_ltN, cw_eqN, cw_tf0, cw_tf1, cw_tfa, cw_bi, cw_bl, cw_bv, if_true, if_false, Bool.false_eq_true, Bool.true_eq_false, ite_self, cw_neg1, cw_m1a, cw_ztl, cw_zeq, cw_zadd, cw_znadd, cw_nzadd, cw_zsub, cw_zmul, cw_znmul, cw_nzmul, cw_ltNZ, cw_eqZN, cw_eqNZ, cw_ltZN, cw_on, cw_os, cw_c0, cw_c1, cw_c2, cw_c3, cw_c4, cw_c5, cw_c8, cw_c10, cw_c40, cw_c80, cw_c100, cp_144z, cp_140n, cw_mabs, cw_mod8, decide_eq_true_eq, not_false_eq_true, not_true_eq_false, true_and, and_true, false_and, and_false, decide_eq_false_iff_not, Nat.not_lt, Nat.not_le, if_pos, if_neg]
      refine cw_ret ⟨rfl, rfl, f1, fun set hs hsub => ?_⟩
      cases dn with
      | true =>
        have e : st set = set := by rw [hst set hs]; rfl
        have := a1 set hs (by rw [e]; exact hsub)
        rw [e] at this
        exact this
      | false =>
        have e : st (2 ^ D 0 2 - 1 - set) = set := by
          rw [hst _ (by omega)]
          show 2 ^ D 0 2 - 1 - (2 ^ D 0 2 - 1 - set) = set
          omega
        have := a1 (2 ^ D 0 2 - 1 - set) (by omega) (by rw [e]; exact hsub)
        rw [e] at this
        exact this
    · intro i ⟨I1, u5, u6, u7, u8⟩ hi ⟨f1, a1⟩ K
      replace f1 : ∀ a k, a ≠ 128 → I1 a k = I a k := f1
      replace a1 : ∀ j, j < i → ce_an (st j) all = 0 → ce_led F (D 0 2) dn all I1 (st j) := a1
      have hR1 : cd_refD D I1 := hR.of (fun a k h1 h2 => f1 a k (by omega))
      have hsti := hst i hi
      have hsl : st i < 2 ^ D 0 2 := by rw [hsti]; split <;> omega
      have hinj : ∀ j, j < i → st j ≠ st i := fun j hj q => by
        rw [hst j (by omega), hsti] at q
        cases dn with
        | true => replace q : j = i := q; omega
        | false => replace q : 2 ^ D 0 2 - 1 - j = 2 ^ D 0 2 - 1 - i := q; omega
      -- a set of all: the inner loop
      have inn : ce_an (st i) all = 0 → ∀ w8, cw L w (cd_go 227 39 [.ref 100, .int (nI all), .int (cd_tf dn), .int (nI (2 ^ D 0 2)), .int (nI i), .int (nI (st i)), .int (cd_tf (decide (ce_tdo dn all (st i) = 0))), .int 0, w8] [] (cd_mm L w I1 J)) _ := fun hsub w8 => cp_227I h12 hR1 ha hsl hsub (by omega) (fun k hk ht => by
        have hak := ce_tdo_sub hsub ht
        have hsx := ce_sub_x hsub hak
        have hxl := ce_xlt hsl hk
        refine ⟨?_, ?_⟩
        · rw [f1 _ _ (by decide), hF _ hxl hsx, ce_tdo_x hak]
        · have hj : ∃ j, j < i ∧ st j = st i ^^^ 2 ^ k := by
            cases dn with
            | true =>
              have h1 : (st i).testBit k = true := ht
              have h2 := ce_xor_lt h1
              replace hsti : st i = i := hsti
              exact ⟨st i ^^^ 2 ^ k, by omega, by rw [hst _ hxl]; rfl⟩
            | false =>
              have h1 : (ce_an all (st i)).testBit k = true := ht
              rw [ce_an_tb, Bool.and_eq_true, Bool.not_eq_true'] at h1
              have h2 := ce_xor_gt h1.2
              replace hsti : st i = 2 ^ D 0 2 - 1 - i := hsti
              refine ⟨2 ^ D 0 2 - 1 - (st i ^^^ 2 ^ k), by omega, ?_⟩
              rw [hst _ (by omega)]
              show 2 ^ D 0 2 - 1 - (2 ^ D 0 2 - 1 - (st i ^^^ 2 ^ k)) = _
              omega
          obtain ⟨j, hj1, hj2⟩ := hj
          have := a1 j hj1 (by rw [hj2]; exact hsx)
          rw [hj2] at this
          unfold ce_led at this
          rw [this, ce_tdo_x hak]) (fun u5 u6 u7 u8 => K (_, u5, u6, u7, u8) ⟨fun a k h => (cd_up_a h).trans (f1 a k h), fun j hj hsub2 => by
        show cd_up I1 128 (st i) _ 128 (st j) = _
        by_cases hje : j = i
        · rw [hje, cd_up_s]
        · rw [cd_up_k (hinj j (by omega))]
          exact a1 j (by omega) hsub2⟩)
      have skip : ¬ ce_an (st i) all = 0 → ∀ u5 u6 u7 u8, cw L w (cd_go 227 7 [.ref 100, .int (nI all), .int (cd_tf dn), .int (nI (2 ^ D 0 2)), .int (nI (i + 1)), u5, u6, u7, u8] [] (cd_mm L w I1 J)) _ := fun hns u5 u6 u7 u8 => K (I1, u5, u6, u7, u8) ⟨f1, fun j hj hsub2 => a1 j (by
        have : j ≠ i := fun q => hns (by rw [← q]; exact hsub2)
        omega) hsub2⟩
      have hale := ce_an_le (st i) all
      refine cw_m (fun _ => cd_s227_7) ?_
      cases dn with
      | true =>
        replace hsti : st i = i := hsti
        rw [hsti] at inn skip hale
        by_cases hz : ce_an i all = 0
        · have inn := inn hz
          rw [show ce_tdo true all i = i from rfl] at inn
          by_cases h0 : i = 0
          · rw [decide_eq_true h0] at inn
            simp (disch := omega) only [cw_l0, cw_l1, cw_l2, cw_l3, cw_l4, cw_l5, cw_l6, cw_l7, cw_l8, cw_l9, cw_l10, cw_l11, cw_l12, cw_l13, cw_l14, cw_l15, cw_l16, cw_l17, cw_l18, cw_l19, cw_l20, cw_l27, cw_l28, cw_l31, cw_l32, cw_l40, cw_l52, cw_l60, cw_l61, cw_l63, cw_l64, cw_l80, cw_l97, cw_l99, cw_l100, cw_l255, cw_l500, cw_l999, cw_l65536, cd_inN, nI_clamp, nI_add, pk_mul, cw_subc, cw_zz, pk_div, cw_ltN, cw_eqN, cw_tf0, cw_tf1, cw_tfa, cw_bi, cw_bl, cw_bv, if_true, if_false, Bool.false_eq_true, Bool.true_eq_false, ite_self, cw_neg1, cw_m1a, cw_ztl, cw_zeq, cw_zadd, cw_znadd, cw_nzadd, cw_zsub, cw_zmul, cw_znmul, cw_nzmul, cw_ltNZ, cw_eqZN, cw_eqNZ, cw_ltZN, cw_on, cw_os, cw_c0, cw_c1, cw_c2, cw_c3, cw_c4, cw_c5, cw_c8, cw_c10, cw_c40, cw_c80, cw_c100, cp_144z, cp_140n, cw_mabs, cw_mod8, decide_eq_true_eq, not_false_eq_true, not_true_eq_false, true_and, and_true, false_and, and_false, decide_eq_false_iff_not, Nat.not_lt, Nat.not_le, if_pos, if_neg, cw_andn]
            exact inn _
          · rw [decide_eq_false h0] at inn
            simp (disch := omega) only [cw_l0, cw_l1, cw_l2, cw_l3, cw_l4, cw_l5, cw_l6, cw_l7, cw_l8, cw_l9, cw_l10, cw_l11, cw_l12, cw_l13, cw_l14, cw_l15, cw_l16, cw_l17, cw_l18, cw_l19, cw_l20, cw_l27, cw_l28, cw_l31, cw_l32, cw_l40, cw_l52, cw_l60, cw_l61, cw_l63, cw_l64, cw_l80, cw_l97, cw_l99, cw_l100, cw_l255, cw_l500, cw_l999, cw_l65536, cd_inN, nI_clamp, nI_add, pk_mul, cw_subc, cw_zz, pk_div, cw_ltN, cw_eqN, cw_tf0, cw_tf1, cw_tfa, cw_bi, cw_bl, cw_bv, if_true, if_false, Bool.false_eq_true, Bool.true_eq_false, ite_self, cw_neg1, cw_m1a, cw_ztl, cw_zeq, cw_zadd, cw_znadd, cw_nzadd, cw_zsub, cw_zmul, cw_znmul, cw_nzmul, cw_ltNZ, cw_eqZN, cw_eqNZ, cw_ltZN, cw_on, cw_os, cw_c0, cw_c1, cw_c2, cw_c3, cw_c4, cw_c5, cw_c8, cw_c10, cw_c40, cw_c80, cw_c100, cp_144z, cp_140n, cw_mabs, cw_mod8, decide_eq_true_eq, not_false_eq_true, not_true_eq_false, true_and, and_true, false_and, and_false, decide_eq_false_iff_not, Nat.not_lt, Nat.not_le, if_pos, if_neg, cw_andn]
            exact inn _
        · simp (disch := omega) only [cw_l0, cw_l1, cw_l2, cw_l3, cw_l4, cw_l5, cw_l6, cw_l7, cw_l8, cw_l9, cw_l10, cw_l11, cw_l12, cw_l13, cw_l14, cw_l15, cw_l16, cw_l17, cw_l18, cw_l19, cw_l20, cw_l27, cw_l28, cw_l31, cw_l32, cw_l40, cw_l52, cw_l60, cw_l61, cw_l63, cw_l64, cw_l80, cw_l97, cw_l99, cw_l100, cw_l255, cw_l500, cw_l999, cw_l65536, cd_inN, nI_clamp, nI_add, pk_mul, cw_subc, cw_zz, pk_div, cw_ltN, cw_eqN, cw_tf0, cw_tf1, cw_tfa, cw_bi, cw_bl, cw_bv, if_true, if_false, Bool.false_eq_true, Bool.true_eq_false, ite_self, cw_neg1, cw_m1a, cw_ztl, cw_zeq, cw_zadd, cw_znadd, cw_nzadd, cw_zsub, cw_zmul, cw_znmul, cw_nzmul, cw_ltNZ, cw_eqZN, cw_eqNZ, cw_ltZN, cw_on, cw_os, cw_c0, cw_c1, cw_c2, cw_c3, cw_c4, cw_c5, cw_c8, cw_c10, cw_c40, cw_c80, cw_c100, cp_144z, cp_140n, cw_mabs, cw_mod8, decide_eq_true_eq, not_false_eq_true, not_true_eq_false, true_and, and_true, false_and, and_false, decide_eq_false_iff_not, Nat.not_lt, Nat.not_le, if_pos, if_neg, cw_andn]
          exact skip hz _ _ _ _
      | false =>
        replace hsti : st i = 2 ^ D 0 2 - 1 - i := hsti
        rw [hsti] at inn skip hale hsl
        by_cases hz : ce_an (2 ^ D 0 2 - 1 - i) all = 0
        · have inn := inn hz
          rw [show ce_tdo false all (2 ^ D 0 2 - 1 - i) = ce_an all (2 ^ D 0 2 - 1 - i) from rfl] at inn
          have hiff : ce_an all (2 ^ D 0 2 - 1 - i) = 0 ↔ 2 ^ D 0 2 - 1 - i = all := by
            constructor
            · intro h
              rw [ce_an0] at h hz
              refine Nat.eq_of_testBit_eq (fun k => ?_)
              cases q1 : all.testBit k with
              | true => exact h k q1
              | false =>
                cases q2 : (2 ^ D 0 2 - 1 - i).testBit k with
                | false => rfl
                | true => rw [hz k q2] at q1; cases q1
            · intro h
              rw [h, ce_an0]
              exact fun k hk => hk
          by_cases h0 : 2 ^ D 0 2 - 1 - i = all
          · rw [decide_eq_true (hiff.mpr h0)] at inn
            simp (disch := omega) only [cw_l0, cw_l1, cw_l2, cw_l3, cw_l4, cw_l5, cw_l6, cw_l7, cw_l8, cw_l9, cw_l10, cw_l11, cw_l12, cw_l13, cw_l14, cw_l15, cw_l16, cw_l17, cw_l18, cw_l19, cw_l20, cw_l27, cw_l28, cw_l31, cw_l32, cw_l40, cw_l52, cw_l60, cw_l61, cw_l63, cw_l64, cw_l80, cw_l97, cw_l99, cw_l100, cw_l255, cw_l500, cw_l999, cw_l65536, cd_inN, nI_clamp, nI_add, pk_mul, cw_subc, cw_zz, pk_div, cw_ltN, cw_eqN, cw_tf0, cw_tf1, cw_tfa, cw_bi, cw_bl, cw_bv, if_true, if_false, Bool.false_eq_true, Bool.true_eq_false, ite_self, cw_neg1, cw_m1a, cw_ztl, cw_zeq, cw_zadd, cw_znadd, cw_nzadd, cw_zsub, cw_zmul, cw_znmul, cw_nzmul, cw_ltNZ, cw_eqZN, cw_eqNZ, cw_ltZN, cw_on, cw_os, cw_c0, cw_c1, cw_c2, cw_c3, cw_c4, cw_c5, cw_c8, cw_c10, cw_c40, cw_c80, cw_c100, cp_144z, cp_140n, cw_mabs, cw_mod8, decide_eq_true_eq, not_false_eq_true, not_true_eq_false, true_and, and_true, false_and, and_false, decide_eq_false_iff_not, Nat.not_lt, Nat.not_le, if_pos, if_neg, cw_andn]
            exact inn _
          · rw [decide_eq_false (fun q => h0 (hiff.mp q))] at inn
            simp (disch := omega) only [cw_l0, cw_l1, cw_l2, cw_l3, cw_l4, cw_l5, cw_l6, cw_l7, cw_l8, cw_l9, cw_l10, cw_l11, cw_l12, cw_l13, cw_l14, cw_l15, cw_l16, cw_l17, cw_l18, cw_l19, cw_l20, cw_l27, cw_l28, cw_l31, cw_l32, cw_l40, cw_l52, cw_l60, cw_l61, cw_l63, cw_l64, cw_l80, cw_l97, cw_l99, cw_l100, cw_l255, cw_l500, cw_l999, cw_l65536, cd_inN, nI_clamp, nI_add, pk_mul, cw_subc, cw_zz, pk_div, cw_ltN, cw_eqN, cw_tf0, cw_tf1, cw_tfa, cw_bi, cw_bl, cw_bv, if_true, if_false, Bool.false_eq_true, Bool.true_eq_false, ite_self, cw_neg1, cw_m1a, cw_ztl, cw_zeq, cw_zadd, cw_znadd, cw_nzadd, cw_zsub, cw_zmul, cw_znmul, cw_nzmul, cw_ltNZ, cw_eqZN, cw_eqNZ, cw_ltZN, cw_on, cw_os, cw_c0, cw_c1, cw_c2, cw_c3, cw_c4, cw_c5, cw_c8, cw_c10, cw_c40, cw_c80, cw_c100, cp_144z, cp_140n, cw_mabs, cw_mod8, decide_eq_true_eq, not_false_eq_true, not_true_eq_false, true_and, and_true, false_and, and_false, decide_eq_false_iff_not, Nat.not_lt, Nat.not_le, if_pos, if_neg, cw_andn]
            exact inn _
        · simp (disch := omega) only [cw_l0, cw_l1, cw_l2, cw_l3, cw_l4, cw_l5, cw_l6, cw_l7, cw_l8, cw_l9, cw_l10, cw_l11, cw_l12, cw_l13, cw_l14, cw_l15, cw_l16, cw_l17, cw_l18, cw_l19, cw_l20, cw_l27, cw_l28, cw_l31, cw_l32, cw_l40, cw_l52, cw_l60, cw_l61, cw_l63, cw_l64, cw_l80, cw_l97, cw_l99, cw_l100, cw_l255, cw_l500, cw_l999, cw_l65536, cd_inN, nI_clamp, nI_add, pk_mul, cw_subc, cw_zz, pk_div, cw_ltN, cw_eqN, cw_tf0, cw_tf1, cw_tfa, cw_bi, cw_bl, cw_bv, if_true, if_false, Bool.false_eq_true, Bool.true_eq_false, ite_self, cw_neg1, cw_m1a, cw_ztl, cw_zeq, cw_zadd, cw_znadd, cw_nzadd, cw_zsub, cw_zmul, cw_znmul, cw_nzmul, cw_ltNZ, cw_eqZN, cw_eqNZ, cw_ltZN, cw_on, cw_os, cw_c0, cw_c1, cw_c2, cw_c3, cw_c4, cw_c5, cw_c8, cw_c10, cw_c40, cw_c80, cw_c100, cp_144z, cp_140n, cw_mabs, cw_mod8, decide_eq_true_eq, not_false_eq_true, not_true_eq_false, true_and, and_true, false_and, and_false, decide_eq_false_iff_not, Nat.not_lt, Nat.not_le, if_pos, if_neg, cw_andn]
          exact skip hz _ _ _ _
  exact key (fun i => if dn then i else 2 ^ D 0 2 - 1 - i) (fun i _ => rfl)
end CEZ
