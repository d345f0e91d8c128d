/-! ===== the class: sets of cells as longs ===== -/
theorem cf_lNeq {a b : Nat} (ha : a < 2 ^ 64) (hb : b < 2 ^ 64) : (lN a = lN b) ↔ a = b := ⟨fun h => by rw [← wb_tn ha, h, wb_tn hb], fun h => by rw [h]⟩
theorem cf_mk {m : Nat} {f : Nat → Bool} (hm : m < 2 ^ 64) (h : ∀ c, c < 64 → m.testBit c = f c) : lN m = lN (ce_msk f 64) := by
  congr 1
  rw [← ce_msk_id hm]
  exact ce_msk_cong 64 h
theorem cf_mkm {m : Nat} {f : Nat → Bool} (h : ∀ c, c < 64 → m.testBit c = f c) : lN m = lN (ce_msk f 64) := by
  rw [wb_mod m]
  refine cf_mk (Nat.mod_lt _ (by decide)) (fun c hc => ?_)
  rw [Nat.testBit_mod_two_pow, decide_eq_true hc, Bool.true_and]
  exact h c hc
theorem cf_andm {f g h : Nat → Bool} (e : ∀ c, c < 64 → h c = (f c && g c)) : lN (ce_msk f 64) &&& lN (ce_msk g 64) = lN (ce_msk h 64) := by
  rw [wb_and (cf_und_lt f) (cf_und_lt g)]
  refine cf_mkm (fun c hc => ?_)
  rw [Nat.testBit_and, cf_und_tb hc, cf_und_tb hc, e c hc]
theorem cf_m1 : (-1 : Int64) = lN (ce_msk (fun _ => true) 64) := by decide +kernel
theorem cf_notm {f h : Nat → Bool} (e : ∀ c, c < 64 → h c = !f c) : lN (ce_msk f 64) ^^^ (-1) = lN (ce_msk h 64) := by
  rw [cf_m1, lN_xor]
  refine cf_mkm (fun c hc => ?_)
  rw [Nat.testBit_xor, cf_und_tb hc, cf_und_tb hc, e c hc, Bool.xor_true]
theorem cf_cong {f h : Nat → Bool} (e : ∀ c, c < 64 → f c = h c) : lN (ce_msk f 64) = lN (ce_msk h 64) := by rw [ce_msk_cong 64 e]
theorem cf_mnull {f : Nat → Bool} : (lg_cmp (lN (ce_msk f 64)) 0 = 0) ↔ ∀ c, c < 64 → f c = false := by
  rw [lg_cmp_eq, show (0 : Int64) = lN 0 from rfl, cf_lNeq (cf_und_lt f) (by decide)]
  refine ⟨fun h c hc => ?_, fun h => ?_⟩
  · rw [← cf_und_tb (f := f) hc, h, Nat.zero_testBit]
  · apply Nat.eq_of_testBit_eq
    intro i
    rw [ce_msk_tb, Nat.zero_testBit]
    by_cases hi : i < 64
    · rw [h i hi, Bool.and_false]
    · rw [decide_eq_false hi, Bool.false_and]
theorem cf_msame {f g : Nat → Bool} : (lg_cmp (lN (ce_msk f 64)) (lN (ce_msk g 64)) = 0) ↔ ∀ c, c < 64 → f c = g c := by
  rw [lg_cmp_eq, cf_lNeq (cf_und_lt f) (cf_und_lt g)]
  refine ⟨fun h c hc => ?_, fun h => ce_msk_cong 64 h⟩
  rw [← cf_und_tb (f := f) hc, h, cf_und_tb hc]
/-- all sides of a set's cells -/
def cf_sd (f : Nat → Bool) (c : Nat) : Bool := (decide (8 ≤ c) && f (c - 8)) || (decide (c < 56) && f (c + 8)) || (decide (0 < c % 8) && f (c - 1)) || (decide (c % 8 < 7) && f (c + 1))
theorem cf_7f : (9187201950435737471 : Int64) = lN (ce_msk (fun c => decide (c % 8 < 7)) 64) := by decide +kernel
theorem cf_fe : (-72340172838076674 : Int64) = lN (ce_msk (fun c => decide (0 < c % 8)) 64) := by decide +kernel
theorem cf_shl {f h : Nat → Bool} {k : Nat} (hk : k < 64) (e : ∀ c, c < 64 → h c = (decide (k ≤ c) && f (c - k))) : lN (ce_msk f 64) <<< ((nI k).toInt64 &&& 63) = lN (ce_msk h 64) := by
  rw [wb_shl _ hk]
  refine cf_mkm (fun c hc => ?_)
  rw [← Nat.shiftLeft_eq, Nat.testBit_shiftLeft, e c hc]
  by_cases h1 : k ≤ c
  · rw [cf_und_tb (show c - k < 64 by omega)]
  · rw [decide_eq_false h1, Bool.false_and, Bool.false_and]
theorem cf_shr {f h : Nat → Bool} {k : Nat} (hk : k < 64) (e : ∀ c, c < 64 → h c = (decide (c + k < 64) && f (c + k))) : ((lN (ce_msk f 64)).toUInt64 >>> ((nI k).toInt64.toUInt64 &&& Int64.toUInt64 63)).toInt64 = lN (ce_msk h 64) := by
  rw [wb_shr (cf_und_lt f) hk]
  refine cf_mkm (fun c hc => ?_)
  rw [Nat.testBit_div_two_pow, ce_msk_tb, e c hc]
section CGI
variable {L : Nat} {w : Bool} {I : Nat → Nat → Int32} {J : Nat → Nat → Int64} {D : cd_D} {S : cd_S}
variable {Y : ce_Y} {z : Nat}
theorem cp_91 (f : Nat → Bool) : cd_c 91 [.long (lN (ce_msk f 64))] (cd_mm L w I J) = some (some (.long (lN (ce_msk (cf_sd f) 64))), cd_mm L w I J) := by
  refine cd_c_of (l := [_, _, _, _, _, _]) rfl rfl (cd_s91_0 ?_)
  have e1 : lN (ce_msk f 64) <<< ((8 : Int32).toInt64 &&& 63) = lN (ce_msk (fun c => decide (8 ≤ c) && f (c - 8)) 64) := cf_shl (k := 8) (by decide) (fun _ _ => rfl)
  have e2 : ((lN (ce_msk f 64)).toUInt64 >>> ((8 : Int32).toInt64.toUInt64 &&& Int64.toUInt64 63)).toInt64 = lN (ce_msk (fun c => decide (c < 56) && f (c + 8)) 64) := cf_shr (k := 8) (by decide) (fun c _ => by
    show (decide (c < 56) && f (c + 8)) = _
    rw [show decide (c < 56) = decide (c + 8 < 64) from decide_eq_decide.mpr (by omega)])
  have e3 : (lN (ce_msk f 64) &&& 9187201950435737471) <<< ((1 : Int32).toInt64 &&& 63) = lN (ce_msk (fun c => decide (0 < c % 8) && f (c - 1)) 64) := by
    rw [cf_7f, cf_andm (h := fun c => f c && decide (c % 8 < 7)) (fun _ _ => rfl)]
    refine cf_shl (k := 1) (by decide) (fun c hc => ?_)
    show (decide (0 < c % 8) && f (c - 1)) = (decide (1 ≤ c) && (f (c - 1) && decide ((c - 1) % 8 < 7)))
    by_cases h : 0 < c % 8
    · rw [decide_eq_true h, decide_eq_true (show 1 ≤ c by omega), decide_eq_true (show (c - 1) % 8 < 7 by omega), Bool.and_true]
    · rw [decide_eq_false h, Bool.false_and]
      by_cases h1 : 1 ≤ c
      · rw [decide_eq_false (show ¬ (c - 1) % 8 < 7 by omega), Bool.and_false, Bool.and_false]
      · rw [decide_eq_false h1, Bool.false_and]
  have e4 : ((lN (ce_msk f 64) &&& (-72340172838076674)).toUInt64 >>> ((1 : Int32).toInt64.toUInt64 &&& Int64.toUInt64 63)).toInt64 = lN (ce_msk (fun c => decide (c % 8 < 7) && f (c + 1)) 64) := by
    rw [cf_fe, cf_andm (h := fun c => f c && decide (0 < c % 8)) (fun _ _ => rfl)]
    refine cf_shr (k := 1) (by decide) (fun c hc => ?_)
    show (decide (c % 8 < 7) && f (c + 1)) = (decide (c + 1 < 64) && (f (c + 1) && decide (0 < (c + 1) % 8)))
    by_cases h : c % 8 < 7
    · rw [decide_eq_true h, decide_eq_true (show c + 1 < 64 by omega), decide_eq_true (show 0 < (c + 1) % 8 by omega), Bool.and_true]
    · rw [decide_eq_false h, decide_eq_false (show ¬ 0 < (c + 1) % 8 by omega), Bool.and_false, Bool.and_false, Bool.false_and]
  rw [e1, e2, e3, e4, cf_or (h := fun c => (decide (8 ≤ c) && f (c - 8)) || (decide (c < 56) && f (c + 8))) (fun _ _ => rfl), cf_or (h := fun c => (decide (8 ≤ c) && f (c - 8)) || (decide (c < 56) && f (c + 8)) || (decide (0 < c % 8) && f (c - 1))) (fun _ _ => rfl), cf_or (h := cf_sd f) (fun _ _ => rfl)]
end CGI
theorem cf_sd_ad {f : Nat → Bool} {c : Nat} (hc : c < 64) : cf_sd f c = true ↔ ∃ d, ce_ad c d ∧ f d = true := by
  unfold cf_sd
  rw [Bool.or_eq_true, Bool.or_eq_true, Bool.or_eq_true, Bool.and_eq_true, Bool.and_eq_true, Bool.and_eq_true, Bool.and_eq_true, decide_eq_true_eq, decide_eq_true_eq, decide_eq_true_eq, decide_eq_true_eq]
  refine ⟨fun h => ?_, fun ⟨d, h1, h2⟩ => ?_⟩
  · rcases h with ((⟨h1, h2⟩ | ⟨h1, h2⟩) | ⟨h1, h2⟩) | ⟨h1, h2⟩
    · exact ⟨c - 8, (ce_ad_iff hc).mpr (by omega), h2⟩
    · exact ⟨c + 8, (ce_ad_iff hc).mpr (by omega), h2⟩
    · exact ⟨c - 1, (ce_ad_iff hc).mpr (by omega), h2⟩
    · exact ⟨c + 1, (ce_ad_iff hc).mpr (by omega), h2⟩
  · rcases (ce_ad_iff hc).mp h1 with h | h | h | h
    · exact Or.inl (Or.inl (Or.inl ⟨by omega, by rw [show c - 8 = d by omega]; exact h2⟩))
    · exact Or.inl (Or.inl (Or.inr ⟨by omega, by rw [← h.1]; exact h2⟩))
    · exact Or.inl (Or.inr ⟨by omega, by rw [show c - 1 = d by omega]; exact h2⟩)
    · exact Or.inr ⟨by omega, by rw [← h.1]; exact h2⟩
/-- the least bit alone -/
theorem cf_pred_tb {m k : Nat} (h1 : m.testBit k = true) (h0 : ∀ j, j < k → m.testBit j = false) (i : Nat) : (m - 1).testBit i = if i < k then true else if i = k then false else m.testBit i := by
  have hz : m % 2 ^ k = 0 := by
    apply Nat.eq_of_testBit_eq
    intro i
    rw [Nat.testBit_mod_two_pow, Nat.zero_testBit]
    by_cases hi : i < k
    · rw [h0 i hi, Bool.and_false]
    · rw [decide_eq_false hi, Bool.false_and]
  have hodd : m / 2 ^ k % 2 = 1 := by
    rw [Nat.testBit_eq_decide_div_mod_eq, decide_eq_true_eq] at h1
    exact h1
  have hp : 0 < 2 ^ k := ce_2pos
  obtain ⟨a, ha⟩ : ∃ a, m / 2 ^ k = 2 * a + 1 := ⟨m / 2 ^ k / 2, by omega⟩
  have hm : m = 2 ^ k * (2 * a + 1) := by
    have := Nat.div_add_mod m (2 ^ k)
    rw [hz, ha, Nat.add_zero] at this
    exact this.symm
  have hm1 : m - 1 = 2 ^ k * (2 * a) + (2 ^ k - 1) := by
    rw [hm, Nat.mul_add, Nat.mul_one]
    omega
  rw [hm1, Nat.testBit_two_pow_mul_add _ (show 2 ^ k - 1 < 2 ^ k by omega)]
  by_cases hi : i < k
  · rw [if_pos hi, if_pos hi, Nat.testBit_two_pow_sub_one, decide_eq_true hi]
  · rw [if_neg hi, if_neg hi]
    by_cases he : i = k
    · rw [if_pos he, he, Nat.sub_self, Nat.testBit_zero]
      exact decide_eq_false (by omega)
    · rw [if_neg he, hm]
      have := Nat.testBit_two_pow_mul_add (2 * a + 1) (i := k) (b := 0) hp i
      rw [Nat.add_zero, if_neg hi] at this
      rw [this]
      obtain ⟨d, hd⟩ : ∃ d, i - k = d + 1 := ⟨i - k - 1, by omega⟩
      rw [hd, Nat.testBit_succ, Nat.testBit_succ]
      congr 1
      omega
theorem cf_neg {m : Nat} (h0 : 0 < m) (hm : m < 2 ^ 64) : -(lN m) = lN (2 ^ 64 - m) := by
  apply wb_inj
  rw [Int64.toBitVec_neg, wb_tb, wb_tb]
  apply BitVec.eq_of_toNat_eq
  rw [BitVec.toNat_neg, BitVec.toNat_ofNat, BitVec.toNat_ofNat, Nat.mod_eq_of_lt hm]
theorem cf_least {f : Nat → Bool} {k : Nat} (hk : k < 64) (h1 : f k = true) (h0 : ∀ j, j < k → f j = false) : lN (ce_msk f 64) &&& -(lN (ce_msk f 64)) = lN (2 ^ k) := by
  have hlt := ce_msk_lt f 64
  have t1 : (ce_msk f 64).testBit k = true := by rw [cf_und_tb hk]; exact h1
  have t0 : ∀ j, j < k → (ce_msk f 64).testBit j = false := fun j hj => by rw [cf_und_tb (by omega)]; exact h0 j hj
  have hpos : 0 < ce_msk f 64 := by
    rcases Nat.eq_zero_or_pos (ce_msk f 64) with h | h
    · rw [h, Nat.zero_testBit] at t1; cases t1
    · exact h
  rw [cf_neg hpos hlt, wb_and hlt (by omega)]
  congr 1
  apply Nat.eq_of_testBit_eq
  intro i
  have hp := cf_pred_tb t1 t0 i
  generalize ce_msk f 64 = m at *
  obtain ⟨q, hq⟩ : ∃ q, m = q + 1 := ⟨m - 1, by omega⟩
  subst hq
  rw [show q + 1 - 1 = q by omega] at hp
  rw [Nat.testBit_and, Nat.testBit_two_pow_sub_succ (show q < 2 ^ 64 by omega), hp, Nat.testBit_two_pow]
  by_cases hi : i < k
  · rw [t0 i hi, Bool.false_and, decide_eq_false (show ¬ k = i by omega)]
  · rw [if_neg hi]
    by_cases he : i = k
    · subst he
      rw [if_pos rfl, t1, decide_eq_true hk, decide_eq_true rfl]
      rfl
    · rw [if_neg he, decide_eq_false (show ¬ k = i by omega)]
      cases (q + 1).testBit i with
      | false => rfl
      | true => rw [Bool.true_and, Bool.not_true, Bool.and_false]
theorem cf_one {k : Nat} (hk : k < 64) : lN (2 ^ k) = lN (ce_msk (fun c => decide (k = c)) 64) := cf_mkm (fun c _ => by rw [Nat.testBit_two_pow])
theorem cf_cnt_lt {k : Nat} : ∀ n, k ≤ n → fa_cnt (fun c => decide (c < k)) n = k := by
  have h1 : ∀ n, n ≤ k → fa_cnt (fun c => decide (c < k)) n = n := by
    intro n
    induction n with
    | zero => intro _; rfl
    | succ n ih => intro h; rw [ce_cnt_s, ih (by omega), if_pos (decide_eq_true (show n < k by omega))]
  intro n
  induction n with
  | zero => intro h; rw [h1 0 (by omega)]; omega
  | succ n ih =>
    intro h
    by_cases hk : k = n + 1
    · rw [h1 _ (by omega)]; omega
    · rw [ce_cnt_s, ih (by omega), if_neg (by rw [decide_eq_true_eq]; omega), Nat.add_zero]
