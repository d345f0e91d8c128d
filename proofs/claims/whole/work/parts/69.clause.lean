/-! ===== a den's clauses ===== -/
def ce_bd {α β : Type} (r : Except (Nat × Nat) α) (f : α → Except (Nat × Nat) β) : Except (Nat × Nat) β := match r with
  | .error e => .error e
  | .ok a => f a
theorem ce_num_e {x : Nat → Nat} {n lo hi q f p : Nat} (hq : q ≤ n) (h : ce_num x n lo hi q = .error (f, p)) : (f = 1 ∨ f = 2) ∧ p ≤ n := by
  obtain ⟨b1, b2, -, -⟩ := ce_end_b (p := fun k => !decide (x k = 32)) hq
  replace b2 : ce_sk x n q ≤ n := b2
  unfold ce_num at h
  split at h
  · split at h
    · cases h; exact ⟨Or.inr rfl, b2⟩
    · split at h
      · cases h
      · cases h; exact ⟨Or.inr rfl, b2⟩
  · cases h; exact ⟨Or.inl rfl, b2⟩
theorem ce_stop_e {x : Nat → Nat} {n q f p : Nat} (hq : q ≤ n) (h : ce_stop x n q = .error (f, p)) : f = 1 ∧ p ≤ n := by
  obtain ⟨b1, b2, -, -⟩ := ce_end_b (p := fun k => !decide (x k = 32)) hq
  replace b2 : ce_sk x n q ≤ n := b2
  unfold ce_stop at h
  split at h
  · cases h
  · cases h; exact ⟨rfl, b2⟩
abbrev ce_R : Type := Except (Nat × Nat) (Nat × cd_D × cd_S)
def ce_tk (D : cd_D) (S : cd_S) (c : Nat) : Bool := ce_any (fun u => decide (S 1 u = c)) (D 0 0)
def ce_aT (D : cd_D) (h w r b : Nat) : cd_D := cd_up (cd_up (cd_up (cd_up (cd_up D 1 (D 0 0) h) 2 (D 0 0) w) 3 (D 0 0) r) 4 (D 0 0) b) 0 0 (D 0 0 + 1)
def ce_pT (x : Nat → Nat) (n q : Nat) (D : cd_D) (S : cd_S) : ce_R := ce_bd (ce_num x n 0 64 q) fun a => if ce_tk D S a.1 then .error (3, a.2.1) else ce_bd (ce_num x n 1 21 a.2.2) fun h => ce_bd (ce_num x n 1 100 h.2.2) fun w => ce_bd (ce_num x n 0 100 w.2.2) fun r => ce_bd (ce_num x n 1 10 r.2.2) fun b => .ok (b.2.2, ce_aT D h.1 w.1 r.1 b.1, cd_up S 1 (D 0 0) a.1)
def ce_aC (D : cd_D) (c a d g l : Nat) : cd_D := cd_up (cd_up (cd_up (cd_up (cd_up (cd_up D 5 (D 0 1) c) 6 (D 0 1) a) 7 (D 0 1) d) 8 (D 0 1) g) 9 (D 0 1) l) 0 1 (D 0 1 + 1)
def ce_pC (x : Nat → Nat) (n q : Nat) (D : cd_D) (S : cd_S) : ce_R := ce_bd (ce_num x n 0 64 q) fun c => ce_bd (ce_num x n 1 9 c.2.2) fun a => ce_bd (ce_num x n 1 9 a.2.2) fun d => if 8 < c.1 / 8 + a.1 ∨ 8 < c.1 % 8 + d.1 then .error (5, d.2.1) else ce_bd (ce_num x n 1 10 d.2.2) fun g => ce_bd (ce_num x n 1 10 g.2.2) fun l => .ok (l.2.2, ce_aC D c.1 a.1 d.1 g.1 l.1, S)
def ce_pai (D : cd_D) (c t : Nat) : Bool := ce_any (fun k => decide (D 11 k = c) && decide (D 12 k = t)) (D 0 2)
def ce_kw (x : Nat → Nat) (s m : Nat) : Option Nat := if ce_wdr x s m [100, 105, 97, 108] then some 0 else if ce_wdr x s m [103, 101, 112] then some 1 else if ce_wdr x s m [107, 111, 111, 98] then some 2 else if ce_wdr x s m [100, 101, 105, 116] then some 3 else if ce_wdr x s m [100, 101, 112, 112, 97, 114, 116] then some 4 else none
def ce_aH (D : cd_D) (c t : Nat) : cd_D := cd_up (cd_up (cd_up D 11 (D 0 2) c) 12 (D 0 2) t) 0 2 (D 0 2 + 1)
def ce_aS (D : cd_D) (S : cd_S) (v b : Nat) : cd_S := cd_up (cd_up (cd_up S 2 (D 0 2) v) 3 (D 0 2) b) 0 2 (S 0 2 + 2 ^ D 0 2)
def ce_pB (x : Nat → Nat) (n e v : Nat) : Except (Nat × Nat) (Nat × Nat) := if v = 2 then ce_bd (ce_num x n 1 100 e) fun b => .ok (b.1, b.2.2) else .ok (0, e)
def ce_pH (x : Nat → Nat) (n q : Nat) (D : cd_D) (S : cd_S) : ce_R := ce_bd (ce_num x n 0 (D 0 1) q) fun c => ce_bd (ce_num x n 0 (D 0 0) c.2.2) fun t => if ce_pai D c.1 t.1 || ((D 0 3).testBit t.1 || !cd_und D c.1 (S 1 t.1)) then .error (3, t.2.1) else match ce_kw x (ce_sk x n t.2.2) (ce_we x n (ce_sk x n t.2.2) - ce_sk x n t.2.2) with
  | none => .error (1, ce_sk x n t.2.2)
  | some v => ce_bd (ce_pB x n (ce_we x n (ce_sk x n t.2.2)) v) fun b => .ok (b.2, ce_aH D c.1 t.1, ce_aS D S v b.1)
def ce_aL (D : cd_D) (a b : Nat) : cd_D := cd_up (cd_up (cd_up D 0 16 a) 0 17 b) 0 18 1
def ce_pL (x : Nat → Nat) (n q : Nat) (D : cd_D) (S : cd_S) : ce_R := ce_bd (ce_num x n 0 100 q) fun a => ce_bd (ce_num x n 1 21 a.2.2) fun b => .ok (b.2.2, ce_aL D a.1 b.1, S)
def ce_hon (D : cd_D) (t : Nat) : Bool := ce_any (fun k => decide (D 12 k = t)) (D 0 2)
def ce_pR (x : Nat → Nat) (n q : Nat) (D : cd_D) (S : cd_S) : ce_R := ce_bd (ce_num x n 0 (D 0 0) q) fun t => if ce_hon D t.1 then .error (3, t.2.1) else .ok (t.2.2, cd_up D 0 3 (D 0 3 ||| 2 ^ t.1), S)
/-- the clause's word: 0 thing .. 4 bar -/
def ce_cw (x : Nat → Nat) (s m : Nat) : Option Nat := if ce_wdr x s m [103, 110, 105, 104, 116] then some 0 else if ce_wdr x s m [104, 116, 111, 108, 99] then some 1 else if ce_wdr x s m [100, 108, 111, 104] then some 2 else if ce_wdr x s m [116, 104, 103, 105, 108] then some 3 else if ce_wdr x s m [114, 97, 98] then some 4 else none
/-- a clause, its word behind -/
def ce_pW (x : Nat → Nat) (n s e : Nat) (D : cd_D) (S : cd_S) : ce_R := match ce_cw x s (e - s) with
  | none => .error (1, s)
  | some 0 => if D 0 0 = 8 then .error (4, s) else ce_pT x n e D S
  | some 1 => if D 0 1 = 3 then .error (4, s) else ce_pC x n e D S
  | some 2 => if D 0 2 = 12 then .error (4, s) else ce_pH x n e D S
  | some 3 => if D 0 18 = 1 then .error (3, s) else ce_pL x n e D S
  | some _ => ce_pR x n e D S
def ce_pc (x : Nat → Nat) (n q : Nat) (D : cd_D) (S : cd_S) : ce_R := ce_bd (ce_pW x n (ce_sk x n q) (ce_we x n (ce_sk x n q)) D S) fun a => ce_bd (ce_stop x n a.1) fun z => .ok (z, a.2)
/-- a text of clauses -/
def ce_pD (x : Nat → Nat) (n : Nat) : Nat → Nat → cd_D → cd_S → Except (Nat × Nat) (cd_D × cd_S)
  | 0, _, D, S => .ok (D, S)
  | f + 1, q, D, S => if ce_sk x n q < n then ce_bd (ce_pc x n q D S) fun a => ce_pD x n f a.1 a.2.1 a.2.2 else .ok (D, S)
/-- a den half told -/
def ce_okP (D : cd_D) (S : cd_S) : Prop := cd_okD D ∧ ce_okT D S ∧ S 0 1 = 0 ∧ S 0 2 + 1 = 2 ^ D 0 2 ∧ D 0 3 < 256 ∧ D 0 18 ≤ 1
/-! ===== the reference: a den half told ===== -/
def ce_P (D : cd_D) (S : cd_S) (I : Nat → Nat → Int32) : Prop := (I 100 25 = nI (D 0 0) ∧ I 100 27 = nI (D 0 1) ∧ I 100 29 = nI (D 0 2) ∧ I 100 31 = nI (D 0 16) ∧ I 100 32 = nI (D 0 17) ∧ I 100 33 = nI (D 0 18) ∧ I 100 34 = nI (D 0 3)) ∧ (∀ t, t < D 0 0 → I 114 (5 * t) = nI (S 1 t) ∧ I 114 (5 * t + 1) = nI (D 1 t) ∧ I 114 (5 * t + 2) = nI (D 2 t) ∧ I 114 (5 * t + 3) = nI (D 3 t) ∧ I 114 (5 * t + 4) = nI (D 4 t)) ∧ (∀ k, k < D 0 1 → I 115 (5 * k) = nI (D 5 k) ∧ I 115 (5 * k + 1) = nI (D 6 k) ∧ I 115 (5 * k + 2) = nI (D 7 k) ∧ I 115 (5 * k + 3) = nI (D 8 k) ∧ I 115 (5 * k + 4) = nI (D 9 k)) ∧ ∀ k, k < D 0 2 → I 116 (4 * k) = nI (D 11 k) ∧ I 116 (4 * k + 1) = nI (D 12 k) ∧ I 116 (4 * k + 2) = nI (S 2 k) ∧ I 116 (4 * k + 3) = nI (S 3 k)
theorem ce_P.of {D : cd_D} {S : cd_S} {I I1 : Nat → Nat → Int32} (h : ce_P D S I) (g : ∀ a k, (a = 100 ∧ (25 ≤ k ∧ k ≤ 34) ∨ 114 ≤ a ∧ a ≤ 116) → I1 a k = I a k) : ce_P D S I1 := by
  obtain ⟨⟨a1, a2, a3, a4, a5, a6, a7⟩, b, c, d⟩ := h
  refine ⟨⟨?_, ?_, ?_, ?_, ?_, ?_, ?_⟩, fun t ht => ?_, fun k hk => ?_, fun k hk => ?_⟩
  · rw [g _ _ (by omega)]; exact a1
  · rw [g _ _ (by omega)]; exact a2
  · rw [g _ _ (by omega)]; exact a3
  · rw [g _ _ (by omega)]; exact a4
  · rw [g _ _ (by omega)]; exact a5
  · rw [g _ _ (by omega)]; exact a6
  · rw [g _ _ (by omega)]; exact a7
  · rw [g _ _ (by omega), g _ _ (by omega), g _ _ (by omega), g _ _ (by omega), g _ _ (by omega)]; exact b t ht
  · rw [g _ _ (by omega), g _ _ (by omega), g _ _ (by omega), g _ _ (by omega), g _ _ (by omega)]; exact c k hk
  · rw [g _ _ (by omega), g _ _ (by omega), g _ _ (by omega), g _ _ (by omega)]; exact d k hk
/-- what a part of the parser leaves -/
def ce_xP (a k : Nat) : Prop := a = 100 ∧ (19 ≤ k ∧ k ≤ 34) ∨ 114 ≤ a ∧ a ≤ 116
def ce_pq (I : Nat → Nat → Int32) (J : Nat → Nat → Int64) (r : ce_R) : Option Value → (Nat → Nat → Int32) → (Nat → Nat → Int64) → Prop := fun v I1 J1 => (∀ a k, a ≠ 100 → J1 a k = J a k) ∧ (∀ a k, ¬ ce_xP a k → I1 a k = I a k) ∧ match r with
  | .ok (e, D1, S1) => v = some (.int (nI 0)) ∧ I1 100 20 = nI e ∧ ce_P D1 S1 I1 ∧ I1 100 19 = I 100 19
  | .error (f, p) => v = some (.int (nI f)) ∧ I1 100 19 = nI p
section CFF
variable {L : Nat} {w : Bool} {I : Nat → Nat → Int32} {J : Nat → Nat → Int64} {D : cd_D} {S : cd_S}
variable {x : Nat → Nat} {n q : Nat}
theorem cp_159 (hP : ce_P D S I) (h8 : D 0 0 ≤ 8) (hS : ∀ t, t < D 0 0 → S 1 t < 64) {c : Nat} (hc : c < 64) : cd_c 159 [.ref 100, .int (nI c)] (cd_mm L w I J) = some (some (.int (cd_tf (ce_tk D S c))), cd_mm L w I J) := by
  refine cw_eq ?_
  refine cw_c (l := [_, _, _, _]) rfl rfl ?_
  refine cw_m (fun _ => cd_s159_0) ?_
  refine cw_up (fun i (_ : Unit) => cd_go 159 4 [.ref 100, .int (nI c), .int (cd_tf (ce_any (fun u => decide (S 1 u = c)) i)), .int (nI i)] [] (cd_mm L w I J)) (fun _ _ => True) (D 0 0) ?_ ?_ 0 () (by omega) trivial
  · intro _ _
    refine cw_m (fun _ => cd_s159_4) ?_
    simp (disch := omega) only [cw_l0, cw_l1, cw_l2, cw_l3, cw_l4, cw_l5, cw_l6, cw_l7, cw_l8, cw_l9, cw_l10, cw_l11, cw_l12, cw_l13, cw_l14, cw_l15, cw_l16, cw_l17, cw_l18, cw_l19, cw_l20, cw_l27, cw_l28, cw_l31, cw_l32, cw_l40, cw_l52, cw_l60, cw_l61, cw_l63, cw_l64, cw_l80, cw_l97, cw_l99, cw_l100, cw_l255, cw_l500, cw_l999, cw_l65536, cd_inN, nI_clamp, nI_add, pk_mul, cw_subc, cw_zz, pk_div, cw_ltN, cw_eqN, cw_tf0, cw_tf1, cw_tfa, cw_bi, cw_bl, cw_bv, if_true, if_false, Bool.false_eq_true, Bool.true_eq_false, ite_self, cw_neg1, cw_m1a, cw_ztl, cw_zeq, cw_zadd, cw_znadd, cw_nzadd, cw_zsub, cw_zmul, cw_znmul, cw_nzmul, cw_ltNZ, cw_eqZN, cw_eqNZ, cw_ltZN, cw_on, cw_os, cw_c0, cw_c1, cw_c2, cw_c3, cw_c4, cw_c5, cw_c8, cw_c10, cw_c40, cw_c80, cw_c100, cp_144z, cp_140n, cw_mabs, cw_mod8, decide_eq_true_eq, not_false_eq_true, not_true_eq_false, true_and, and_true, false_and, and_false, decide_eq_false_iff_not, Nat.not_lt, Nat.not_le, if_pos, if_neg, hP.1.1]
    exact cw_ret ⟨rfl, rfl, rfl⟩
  · intro i _ hi _ K
    have K := K () trivial
    rw [ce_any_s] at K
    have g := (hP.2.1 i hi).1
    have hs := hS i hi
    refine cw_m (fun _ => cd_s159_4) ?_
    cases ha : ce_any (fun u => decide (S 1 u = c)) i with
    | true =>
      rw [ha, Bool.true_or] at K
      simp (disch := omega) only [cw_l0, cw_l1, cw_l2, cw_l3, cw_l4, cw_l5, cw_l6, cw_l7, cw_l8, cw_l9, cw_l10, cw_l11, cw_l12, cw_l13, cw_l14, cw_l15, cw_l16, cw_l17, cw_l18, cw_l19, cw_l20, cw_l27, cw_l28, cw_l31, cw_l32, cw_l40, cw_l52, cw_l60, cw_l61, cw_l63, cw_l64, cw_l80, cw_l97, cw_l99, cw_l100, cw_l255, cw_l500, cw_l999, cw_l65536, cd_inN, nI_clamp, nI_add, pk_mul, cw_subc, cw_zz, pk_div, cw_ltN, cw_eqN, cw_tf0, cw_tf1, cw_tfa, cw_bi, cw_bl, cw_bv, if_true, if_false, Bool.false_eq_true, Bool.true_eq_false, ite_self, cw_neg1, cw_m1a, cw_ztl, cw_zeq, cw_zadd, cw_znadd, cw_nzadd, cw_zsub, cw_zmul, cw_znmul, cw_nzmul, cw_ltNZ, cw_eqZN, cw_eqNZ, cw_ltZN, cw_on, cw_os, cw_c0, cw_c1, cw_c2, cw_c3, cw_c4, cw_c5, cw_c8, cw_c10, cw_c40, cw_c80, cw_c100, cp_144z, cp_140n, cw_mabs, cw_mod8, decide_eq_true_eq, not_false_eq_true, not_true_eq_false, true_and, and_true, false_and, and_false, decide_eq_false_iff_not, Nat.not_lt, Nat.not_le, if_pos, if_neg, hP.1.1]
      exact K
    | false =>
      rw [ha, Bool.false_or] at K
      by_cases he : S 1 i = c
      · rw [decide_eq_true he] at K
        simp (disch := omega) only [cw_l0, cw_l1, cw_l2, cw_l3, cw_l4, cw_l5, cw_l6, cw_l7, cw_l8, cw_l9, cw_l10, cw_l11, cw_l12, cw_l13, cw_l14, cw_l15, cw_l16, cw_l17, cw_l18, cw_l19, cw_l20, cw_l27, cw_l28, cw_l31, cw_l32, cw_l40, cw_l52, cw_l60, cw_l61, cw_l63, cw_l64, cw_l80, cw_l97, cw_l99, cw_l100, cw_l255, cw_l500, cw_l999, cw_l65536, cd_inN, nI_clamp, nI_add, pk_mul, cw_subc, cw_zz, pk_div, cw_ltN, cw_eqN, cw_tf0, cw_tf1, cw_tfa, cw_bi, cw_bl, cw_bv, if_true, if_false, Bool.false_eq_true, Bool.true_eq_false, ite_self, cw_neg1, cw_m1a, cw_ztl, cw_zeq, cw_zadd, cw_znadd, cw_nzadd, cw_zsub, cw_zmul, cw_znmul, cw_nzmul, cw_ltNZ, cw_eqZN, cw_eqNZ, cw_ltZN, cw_on, cw_os, cw_c0, cw_c1, cw_c2, cw_c3, cw_c4, cw_c5, cw_c8, cw_c10, cw_c40, cw_c80, cw_c100, cp_144z, cp_140n, cw_mabs, cw_mod8, decide_eq_true_eq, not_false_eq_true, not_true_eq_false, true_and, and_true, false_and, and_false, decide_eq_false_iff_not, Nat.not_lt, Nat.not_le, if_pos, if_neg, hP.1.1, g]
        exact K
      · rw [decide_eq_false he] at K
        simp (disch := omega) only [cw_l0, cw_l1, cw_l2, cw_l3, cw_l4, cw_l5, cw_l6, cw_l7, cw_l8, cw_l9, cw_l10, cw_l11, cw_l12, cw_l13, cw_l14, cw_l15, cw_l16, cw_l17, cw_l18, cw_l19, cw_l20, cw_l27, cw_l28, cw_l31, cw_l32, cw_l40, cw_l52, cw_l60, cw_l61, cw_l63, cw_l64, cw_l80, cw_l97, cw_l99, cw_l100, cw_l255, cw_l500, cw_l999, cw_l65536, cd_inN, nI_clamp, nI_add, pk_mul, cw_subc, cw_zz, pk_div, cw_ltN, cw_eqN, cw_tf0, cw_tf1, cw_tfa, cw_bi, cw_bl, cw_bv, if_true, if_false, Bool.false_eq_true, Bool.true_eq_false, ite_self, cw_neg1, cw_m1a, cw_ztl, cw_zeq, cw_zadd, cw_znadd, cw_nzadd, cw_zsub, cw_zmul, cw_znmul, cw_nzmul, cw_ltNZ, cw_eqZN, cw_eqNZ, cw_ltZN, cw_on, cw_os, cw_c0, cw_c1, cw_c2, cw_c3, cw_c4, cw_c5, cw_c8, cw_c10, cw_c40, cw_c80, cw_c100, cp_144z, cp_140n, cw_mabs, cw_mod8, decide_eq_true_eq, not_false_eq_true, not_true_eq_false, true_and, and_true, false_and, and_false, decide_eq_false_iff_not, Nat.not_lt, Nat.not_le, if_pos, if_neg, hP.1.1, g]
        exact K
/-- one more number of a thing -/
theorem cp_160e {t f : Nat} {x1 x3 : Int32} (hf : f = 1 ∨ f = 2 ∨ f = 3) (h25 : I 100 25 = nI t) (h3 : x3 < 6) : cw L w (cd_go 160 31 [.ref 100, .int x1, .int (nI f), .int x3] [] (cd_mm L w I J)) (fun v I1 J1 => v = some (.int (nI f)) ∧ J1 = J ∧ ∀ a k, ¬ (a = 100 ∧ k = 25) → I1 a k = I a k) := by
  have h0 : ¬ nI f = 0 := nI_ne0 (by omega) (by omega)
  refine cw_m (fun _ => cd_s160_31) ?_
  rw [if_neg h0]
  refine cw_if (fun _ => ?_) (fun _ => ?_)
  · exact cw_ret ⟨rfl, rfl, fun a k h => cd_up_k2 h⟩
  · exact cw_ret ⟨rfl, rfl, fun a k h => cd_up_k2 h⟩
theorem cp_160s (hn : n ≤ 500) (hx : ∀ k, x k < 256) (ht : ce_txt x n I) (hq : q ≤ n) (h20 : I 100 20 = nI q) {t k lo hi : Nat} (ht8 : t < 8) (hk : k = 1 ∧ lo = 1 ∧ hi = 21 ∨ k = 2 ∧ lo = 1 ∧ hi = 100 ∨ k = 3 ∧ lo = 0 ∧ hi = 100 ∨ k = 4 ∧ lo = 1 ∧ hi = 10) {Q : Option Value → (Nat → Nat → Int32) → (Nat → Nat → Int64) → Prop} (K : ∀ I1 u s e, ce_num x n lo hi q = .ok (u, s, e) → (∀ a j, ¬ ce_xN a j → ¬ (a = 114 ∧ j = 5 * t + k) → I1 a j = I a j) → I1 114 (5 * t + k) = nI u → I1 100 20 = nI e → I1 100 19 = I 100 19 → cw L w (cd_go 160 31 [.ref 100, .int (nI (5 * t)), .int (nI 0), .int (nI (k + 1))] [] (cd_mm L w I1 J)) Q) (E : ∀ I1 f p, ce_num x n lo hi q = .error (f, p) → (∀ a j, ¬ ce_xN a j → ¬ (a = 114 ∧ j = 5 * t + k) → I1 a j = I a j) → I1 100 19 = nI p → cw L w (cd_go 160 31 [.ref 100, .int (nI (5 * t)), .int (nI f), .int (nI (k + 1))] [] (cd_mm L w I1 J)) Q) : cw L w (cd_go 160 31 [.ref 100, .int (nI (5 * t)), .int (nI 0), .int (nI k)] [] (cd_mm L w I J)) Q := by
  have body : cw L w ((cd_ci (cd_c 157 [.ref 100, .int (nI lo), .int (zI ((hi : Int) - 1))] (cd_mm L w I J))).bind fun q => cd_go 160 55 [.ref 100, .int (nI (5 * t)), .int (nI 0), .int (nI k)] [.int q.1] q.2) Q := by
    refine cw_ci (cw_mono (cp_157 hn hx ht hq h20 (lo := lo) (hi := hi) (by omega) (by omega) rfl) ?_)
    intro v I1 J1 ⟨hJ, f1, hm⟩
    subst hJ
    have fr : ∀ (y : Int32) a j, ¬ ce_xN a j → ¬ (a = 114 ∧ j = 5 * t + k) → cd_up I1 114 (5 * t + k) y a j = I a j := fun y a j h1 h2 => (cd_up_k2 h2).trans (f1 a j h1)
    cases hr : ce_num x n lo hi q with
    | ok a =>
      obtain ⟨u, s, e⟩ := a
      rw [hr] at hm
      obtain ⟨hv, g23, g24, g20, g19⟩ := hm
      subst hv
      refine ⟨_, rfl, ?_⟩
      refine cw_m (fun _ => cd_s160_55) ?_
      rw [nI_add, if_pos (cd_inN (by omega) (by decide)), nI_clamp (by omega), g23, nI_1]
      exact K _ u s e hr (fr _) cd_up_s ((cd_up_a (by decide)).trans g20) ((cd_up_a (by decide)).trans g19)
    | error a =>
      obtain ⟨f, p⟩ := a
      rw [hr] at hm
      obtain ⟨hv, g19⟩ := hm
      subst hv
      refine ⟨_, rfl, ?_⟩
      refine cw_m (fun _ => cd_s160_55) ?_
      rw [nI_add, if_pos (cd_inN (by omega) (by decide)), nI_clamp (by omega), nI_1]
      exact E _ f p hr (fr _) ((cd_up_a (by decide)).trans g19)
  refine cw_m (fun _ => cd_s160_31) ?_
  rcases hk with ⟨rfl, rfl, rfl⟩ | ⟨rfl, rfl, rfl⟩ | ⟨rfl, rfl, rfl⟩ | ⟨rfl, rfl, rfl⟩
  · exact body
  · exact body
  · exact body
  · exact body
theorem cp_160 (hn : n ≤ 500) (hx : ∀ k, x k < 256) (ht : ce_txt x n I) (hq : q ≤ n) (h20 : I 100 20 = nI q) (hP : ce_P D S I) (h8 : D 0 0 < 8) (hS : ∀ t, t < D 0 0 → S 1 t < 64) : cw L w (cd_c 160 [.ref 100] (cd_mm L w I J)) (ce_pq I J (ce_pT x n q D S)) := by
  have h25 := hP.1.1
  -- behind a fault
  have err : ∀ (I1 : Nat → Nat → Int32) (f p k : Nat), (f = 1 ∨ f = 2 ∨ f = 3) → k < 6 → (∀ a j, ¬ ce_xP a j → I1 a j = I a j) → I1 100 25 = nI (D 0 0) → I1 100 19 = nI p → ce_pT x n q D S = .error (f, p) → cw L w (cd_go 160 31 [.ref 100, .int (nI (5 * D 0 0)), .int (nI f), .int (nI k)] [] (cd_mm L w I1 J)) (ce_pq I J (ce_pT x n q D S)) := by
    intro I1 f p k hf hk f1 g25 g19 hr
    refine cw_mono (cp_160e hf g25 (nI_lt (b := 6) (by omega) (by decide))) ?_
    intro v I2 J2 ⟨hv, hJ, f2⟩
    rw [hr]
    exact ⟨fun a k _ => by rw [hJ], fun a j h => by rw [f2 a j (by unfold ce_xP at h; omega)]; exact f1 a j h, hv, by rw [f2 _ _ (by omega)]; exact g19⟩
  refine cw_c (l := [_, _, _, _]) rfl rfl ?_
  refine cw_m (fun _ => cd_s160_0) ?_
  rw [h25, show (5 : Int32) = nI 5 from rfl, pk_mul]
  refine cw_ci (cw_mono (cp_157 hn hx ht hq h20 (lo := 0) (hi := 64) (by decide) (by decide) rfl) ?_)
  intro v I1 J1 ⟨hJ, f1, hm⟩
  subst hJ
  cases hr0 : ce_num x n 0 64 q with
  | error a =>
    obtain ⟨f, p⟩ := a
    rw [hr0] at hm
    obtain ⟨hv, g19⟩ := hm
    subst hv
    have hf := (ce_num_e hq hr0).1
    refine ⟨_, rfl, ?_⟩
    refine cw_m (fun _ => cd_s160_9) ?_
    rw [if_pos (cd_inN (by omega) (by decide)), if_neg (nI_ne0 (by omega) (by omega)), nI_clamp (by omega)]
    exact err _ f p 1 (by omega) (by decide) (fun a j h => by rw [cd_up_a (by unfold ce_xP at h; omega)]; exact f1 a j (by unfold ce_xP at h; unfold ce_xN; omega)) (by rw [cd_up_a (by decide), f1 _ _ (by unfold ce_xN; omega)]; exact h25) ((cd_up_a (by decide)).trans g19) (by unfold ce_pT; rw [hr0]; rfl)
  | ok a =>
    obtain ⟨c, s1, q1⟩ := a
    rw [hr0] at hm
    obtain ⟨hv, g23, g24, g20, g19⟩ := hm
    subst hv
    obtain ⟨-, hc, hq1, hq1n, -⟩ := ce_num_b hq hr0
    refine ⟨_, rfl, ?_⟩
    have f2 : ∀ (y : Int32) a j, ¬ ce_xP a j → cd_up I1 114 (5 * D 0 0) y a j = I a j := fun y a j h => by rw [cd_up_a (by unfold ce_xP at h; omega)]; exact f1 a j (by unfold ce_xP at h; unfold ce_xN; omega)
    have hP2 : ce_P D S (cd_up I1 114 (5 * D 0 0) (nI c)) := by
      obtain ⟨p1, p2, p3, p4⟩ := hP
      have g : ∀ a j, ¬ ce_xN a j → ¬ (a = 114 ∧ j = 5 * D 0 0) → cd_up I1 114 (5 * D 0 0) (nI c) a j = I a j := fun a j h1 h2 => (cd_up_k2 h2).trans (f1 a j h1)
      refine ⟨?_, fun t htt => ?_, fun k hk => ?_, fun k hk => ?_⟩
      · rw [g _ _ (by unfold ce_xN; omega) (by omega), g _ _ (by unfold ce_xN; omega) (by omega), g _ _ (by unfold ce_xN; omega) (by omega), g _ _ (by unfold ce_xN; omega) (by omega), g _ _ (by unfold ce_xN; omega) (by omega), g _ _ (by unfold ce_xN; omega) (by omega), g _ _ (by unfold ce_xN; omega) (by omega)]; exact p1
      · rw [g _ _ (by unfold ce_xN; omega) (by omega), g _ _ (by unfold ce_xN; omega) (by omega), g _ _ (by unfold ce_xN; omega) (by omega), g _ _ (by unfold ce_xN; omega) (by omega), g _ _ (by unfold ce_xN; omega) (by omega)]; exact p2 t htt
      · rw [g _ _ (by unfold ce_xN; omega) (by omega), g _ _ (by unfold ce_xN; omega) (by omega), g _ _ (by unfold ce_xN; omega) (by omega), g _ _ (by unfold ce_xN; omega) (by omega), g _ _ (by unfold ce_xN; omega) (by omega)]; exact p3 k hk
      · rw [g _ _ (by unfold ce_xN; omega) (by omega), g _ _ (by unfold ce_xN; omega) (by omega), g _ _ (by unfold ce_xN; omega) (by omega), g _ _ (by unfold ce_xN; omega) (by omega)]; exact p4 k hk
    have c9 := cp_159 (L := L) (w := w) (J := J1) hP2 (by omega) hS hc
    refine cw_m (fun _ => cd_s160_9) ?_
    rw [if_pos (cd_inN (by omega) (by decide)), if_pos (show nI 0 = 0 from rfl), nI_clamp (by omega), g23, cd_up_a (show (100 : Nat) ≠ 114 by decide), g23, c9, cw_bi]
    refine cw_m (fun _ => cd_s160_22) ?_
    cases htk : ce_tk D S c with
    | true =>
      rw [if_neg (show ¬ cd_tf true = 0 by decide), cp_153, cw_bi]
      refine cw_m (fun _ => cd_s160_28) ?_
      exact err _ 3 s1 1 (by omega) (by decide) (fun a j h => by rw [cd_up_k2 (by unfold ce_xP at h; omega)]; exact f2 _ a j h) (by rw [cd_up_k (by decide)]; exact hP2.1.1) (by rw [cd_up_s, cd_up_a (by decide)]; exact g24) (by unfold ce_pT; rw [hr0]; show (if ce_tk D S c then _ else _) = _; rw [htk]; rfl)
    | false =>
      rw [if_pos (show cd_tf false = 0 by decide)]
      have hpT : ce_pT x n q D S = ce_bd (ce_num x n 1 21 q1) fun h => ce_bd (ce_num x n 1 100 h.2.2) fun w => ce_bd (ce_num x n 0 100 w.2.2) fun r => ce_bd (ce_num x n 1 10 r.2.2) fun b => .ok (b.2.2, ce_aT D h.1 w.1 r.1 b.1, cd_up S 1 (D 0 0) c) := by
        unfold ce_pT
        rw [hr0]
        show (if ce_tk D S c then _ else _) = _
        rw [htk]
        rfl
      generalize hI2 : cd_up I1 114 (5 * D 0 0) (nI c) = I2 at *
      have f2 : ∀ a j, ¬ ce_xP a j → I2 a j = I a j := fun a j h => by rw [← hI2]; rw [cd_up_a (by unfold ce_xP at h; omega)]; exact f1 a j (by unfold ce_xP at h; unfold ce_xN; omega)
      have d2 : I2 114 (5 * D 0 0) = nI c := by rw [← hI2]; exact cd_up_s
      have g20 : I2 100 20 = nI q1 := by rw [← hI2, cd_up_a (by decide)]; exact g20
      have g19 : I2 100 19 = I 100 19 := by rw [← hI2, cd_up_a (by decide)]; exact g19
      have t2 : ce_txt x n I2 := ht.of (fun a k h => f2 a k (by unfold ce_xP; omega))
      refine cp_160s hn hx t2 hq1n g20 h8 (Or.inl ⟨rfl, rfl, rfl⟩) (fun I3 u3 s3 e3 n3 f3 d3 g20 g193 => ?_) (fun I3 f p n3 f3 g193 => ?_)
      · have hq3 := (ce_num_b hq1n n3).2.2.2.1
        have t3 : ce_txt x n I3 := t2.of (fun a k h => f3 a k (by unfold ce_xN; omega) (by omega))
        refine cp_160s hn hx t3 hq3 g20 h8 (Or.inr (Or.inl ⟨rfl, rfl, rfl⟩)) (fun I4 u4 s4 e4 n4 f4 d4 g20 g194 => ?_) (fun I4 f p n4 f4 g194 => ?_)
        · have hq4 := (ce_num_b hq3 n4).2.2.2.1
          have t4 : ce_txt x n I4 := t3.of (fun a k h => f4 a k (by unfold ce_xN; omega) (by omega))
          refine cp_160s hn hx t4 hq4 g20 h8 (Or.inr (Or.inr (Or.inl ⟨rfl, rfl, rfl⟩))) (fun I5 u5 s5 e5 n5 f5 d5 g20 g195 => ?_) (fun I5 f p n5 f5 g195 => ?_)
          · have hq5 := (ce_num_b hq4 n5).2.2.2.1
            have t5 : ce_txt x n I5 := t4.of (fun a k h => f5 a k (by unfold ce_xN; omega) (by omega))
            refine cp_160s hn hx t5 hq5 g20 h8 (Or.inr (Or.inr (Or.inr ⟨rfl, rfl, rfl⟩))) (fun I6 u6 s6 e6 n6 f6 d6 g20 g196 => ?_) (fun I6 f p n6 f6 g196 => ?_)
            · have f62 : ∀ a j, ¬ ce_xN a j → ¬ (a = 114 ∧ 5 * D 0 0 < j ∧ j < 5 * D 0 0 + 5) → I6 a j = I2 a j := fun a j h1 h2 => by rw [f6 a j h1 (by omega), f5 a j h1 (by omega), f4 a j h1 (by omega), f3 a j h1 (by omega)]
              have d1 : I6 114 (5 * D 0 0) = nI c := by rw [f62 _ _ (by unfold ce_xN; omega) (by omega)]; exact d2
              have d2' : I6 114 (5 * D 0 0 + 1) = nI u3 := by rw [f6 _ _ (by unfold ce_xN; omega) (by omega), f5 _ _ (by unfold ce_xN; omega) (by omega), f4 _ _ (by unfold ce_xN; omega) (by omega)]; exact d3
              have d3' : I6 114 (5 * D 0 0 + 2) = nI u4 := by rw [f6 _ _ (by unfold ce_xN; omega) (by omega), f5 _ _ (by unfold ce_xN; omega) (by omega)]; exact d4
              have d4' : I6 114 (5 * D 0 0 + 3) = nI u5 := by rw [f6 _ _ (by unfold ce_xN; omega) (by omega)]; exact d5
              have g25 : I6 100 25 = nI (D 0 0) := by rw [f62 _ _ (by unfold ce_xN; omega) (by omega)]; exact hP2.1.1
              have hres : ce_pT x n q D S = .ok (e6, ce_aT D u3 u4 u5 u6, cd_up S 1 (D 0 0) c) := by
                rw [hpT]
                unfold ce_bd
                rw [n3]
                dsimp only
                rw [n4]
                dsimp only
                rw [n5]
                dsimp only
                rw [n6]
              rw [hres]
              refine cw_m (fun _ => cd_s160_31) ?_
              rw [if_neg (show ¬ nI (4 + 1) < 5 by decide), g25, nI_1]
              refine cw_ret ⟨fun _ _ _ => rfl, fun a j h => ?_, rfl, (cd_up_k (by decide)).trans g20, ?_, ?_⟩
              · rw [cd_up_k2 (by unfold ce_xP at h; omega), f62 a j (by unfold ce_xP at h; unfold ce_xN; omega) (by unfold ce_xP at h; omega)]; exact f2 a j h
              · obtain ⟨p1, p2, p3, p4⟩ := hP2
                have z : ∀ a j, ¬ ce_xN a j → ¬ (a = 114 ∧ 5 * D 0 0 < j ∧ j < 5 * D 0 0 + 5) → ¬ (a = 100 ∧ j = 25) → cd_up I6 100 25 (nI (D 0 0 + 1)) a j = I2 a j := fun a j h1 h2 h3 => (cd_up_k2 h3).trans (f62 a j h1 h2)
                refine ⟨?_, fun t htt => ?_, fun k hk => ?_, fun k hk => ?_⟩
                · obtain ⟨a1, a2, a3, a4, a5, a6, a7⟩ := p1
                  exact ⟨cd_up_s, (z _ _ (by unfold ce_xN; omega) (by omega) (by omega)).trans a2, (z _ _ (by unfold ce_xN; omega) (by omega) (by omega)).trans a3, (z _ _ (by unfold ce_xN; omega) (by omega) (by omega)).trans a4, (z _ _ (by unfold ce_xN; omega) (by omega) (by omega)).trans a5, (z _ _ (by unfold ce_xN; omega) (by omega) (by omega)).trans a6, (z _ _ (by unfold ce_xN; omega) (by omega) (by omega)).trans a7⟩
                · replace htt : t < D 0 0 + 1 := htt
                  by_cases hte : t = D 0 0
                  · subst hte
                    have z2 : ∀ j, cd_up I6 100 25 (nI (D 0 0 + 1)) 114 j = I6 114 j := fun j => cd_up_a (by decide)
                    rw [z2, z2, z2, z2, z2, d1, d2', d3', d4', d6]
                    simp [ce_aT, cd_up]
                  · rw [z _ _ (by unfold ce_xN; omega) (by omega) (by omega), z _ _ (by unfold ce_xN; omega) (by omega) (by omega), z _ _ (by unfold ce_xN; omega) (by omega) (by omega), z _ _ (by unfold ce_xN; omega) (by omega) (by omega), z _ _ (by unfold ce_xN; omega) (by omega) (by omega)]
                    have := p2 t (by omega)
                    simp [ce_aT, cd_up, hte]
                    exact this
                · rw [z _ _ (by unfold ce_xN; omega) (by omega) (by omega), z _ _ (by unfold ce_xN; omega) (by omega) (by omega), z _ _ (by unfold ce_xN; omega) (by omega) (by omega), z _ _ (by unfold ce_xN; omega) (by omega) (by omega), z _ _ (by unfold ce_xN; omega) (by omega) (by omega)]
                  exact p3 k hk
                · rw [z _ _ (by unfold ce_xN; omega) (by omega) (by omega), z _ _ (by unfold ce_xN; omega) (by omega) (by omega), z _ _ (by unfold ce_xN; omega) (by omega) (by omega), z _ _ (by unfold ce_xN; omega) (by omega) (by omega)]
                  exact p4 k hk
              · rw [cd_up_k (by decide), g196, g195, g194, g193]; exact g19
            · exact err I6 f p 5 (by have := (ce_num_e hq5 n6).1; omega) (by decide) (fun a j h => by rw [f6 a j (by unfold ce_xP at h; unfold ce_xN; omega) (by unfold ce_xP at h; omega), f5 a j (by unfold ce_xP at h; unfold ce_xN; omega) (by unfold ce_xP at h; omega), f4 a j (by unfold ce_xP at h; unfold ce_xN; omega) (by unfold ce_xP at h; omega), f3 a j (by unfold ce_xP at h; unfold ce_xN; omega) (by unfold ce_xP at h; omega)]; exact f2 a j h) (by rw [f6 _ _ (by unfold ce_xN; omega) (by omega), f5 _ _ (by unfold ce_xN; omega) (by omega), f4 _ _ (by unfold ce_xN; omega) (by omega), f3 _ _ (by unfold ce_xN; omega) (by omega)]; exact hP2.1.1) g196 (by
                rw [hpT]
                unfold ce_bd
                rw [n3]
                dsimp only
                rw [n4]
                dsimp only
                rw [n5]
                dsimp only
                rw [n6])
          · exact err I5 f p 4 (by have := (ce_num_e hq4 n5).1; omega) (by decide) (fun a j h => by rw [f5 a j (by unfold ce_xP at h; unfold ce_xN; omega) (by unfold ce_xP at h; omega), f4 a j (by unfold ce_xP at h; unfold ce_xN; omega) (by unfold ce_xP at h; omega), f3 a j (by unfold ce_xP at h; unfold ce_xN; omega) (by unfold ce_xP at h; omega)]; exact f2 a j h) (by rw [f5 _ _ (by unfold ce_xN; omega) (by omega), f4 _ _ (by unfold ce_xN; omega) (by omega), f3 _ _ (by unfold ce_xN; omega) (by omega)]; exact hP2.1.1) g195 (by
                rw [hpT]
                unfold ce_bd
                rw [n3]
                dsimp only
                rw [n4]
                dsimp only
                rw [n5])
        · exact err I4 f p 3 (by have := (ce_num_e hq3 n4).1; omega) (by decide) (fun a j h => by rw [f4 a j (by unfold ce_xP at h; unfold ce_xN; omega) (by unfold ce_xP at h; omega), f3 a j (by unfold ce_xP at h; unfold ce_xN; omega) (by unfold ce_xP at h; omega)]; exact f2 a j h) (by rw [f4 _ _ (by unfold ce_xN; omega) (by omega), f3 _ _ (by unfold ce_xN; omega) (by omega)]; exact hP2.1.1) g194 (by
                rw [hpT]
                unfold ce_bd
                rw [n3]
                dsimp only
                rw [n4])
      · exact err I3 f p 2 (by have := (ce_num_e hq1n n3).1; omega) (by decide) (fun a j h => by rw [f3 a j (by unfold ce_xP at h; unfold ce_xN; omega) (by unfold ce_xP at h; omega)]; exact f2 a j h) (by rw [f3 _ _ (by unfold ce_xN; omega) (by omega)]; exact hP2.1.1) g193 (by
                rw [hpT]
                unfold ce_bd
                rw [n3])
end CFF
