/-! ===== the class: orders over members ===== -/
/-- the members: the holds that hold, in order -/
def cf_mem (S : cd_S) (n c : Nat) (mem : Nat → Nat) : Prop := c = fa_cnt (cd_held S) n ∧ (∀ i, i < c → mem i < n ∧ cd_held S (mem i) = true) ∧ (∀ i j, i < j → j < c → mem i < mem j) ∧ ∀ k, k < n → cd_held S k = true → ∃ i, i < c ∧ mem i = k
/-- the holds of a set of members; what is left of all -/
def cf_U (mem : Nat → Nat) (n c d : Nat) : Nat := ce_msk (fun k => ce_any (fun i => decide (mem i = k) && d.testBit i) c) n
def cf_TT (S : cd_S) (mem : Nat → Nat) (n c d : Nat) : Nat := ce_an (S 0 2) (cf_U mem n c d)
section CGW
variable {S : cd_S} {mem : Nat → Nat} {n c : Nat}
theorem cf_mem.inj (h : cf_mem S n c mem) {i j : Nat} (hi : i < c) (hj : j < c) (e : mem i = mem j) : i = j := by
  rcases Nat.lt_trichotomy i j with q | q | q
  · have := h.2.2.1 i j q hj
    omega
  · exact q
  · have := h.2.2.1 j i q hi
    omega
theorem cf_mem.mono (h : cf_mem S n c mem) {i j : Nat} (hi : i < c) (e : mem i < mem j) : i < j := by
  rcases Nat.lt_trichotomy i j with q | q | q
  · exact q
  · subst q; omega
  · have := h.2.2.1 j i q hi
    omega
theorem cf_mem.U_tb (h : cf_mem S n c mem) {i d : Nat} (hi : i < c) : (cf_U mem n c d).testBit (mem i) = d.testBit i := by
  unfold cf_U
  rw [ce_msk_tb, decide_eq_true (h.2.1 i hi).1, Bool.true_and]
  cases hd : d.testBit i with
  | true => exact ce_any_t.mpr ⟨i, hi, by rw [hd, decide_eq_true rfl]; rfl⟩
  | false =>
    cases hq : ce_any (fun j => decide (mem j = mem i) && d.testBit j) c with
    | false => rfl
    | true =>
      obtain ⟨j, hj, h2⟩ := ce_any_t.mp hq
      rw [Bool.and_eq_true, decide_eq_true_eq] at h2
      rw [h.inj hj hi h2.1, hd] at h2
      exact absurd h2.2 (by decide)
theorem cf_mem.U_no {k d : Nat} (hk : ∀ i, i < c → mem i ≠ k) : (cf_U mem n c d).testBit k = false := by
  unfold cf_U
  rw [ce_msk_tb]
  cases hq : ce_any (fun j => decide (mem j = k) && d.testBit j) c with
  | false => exact Bool.and_false _
  | true =>
    obtain ⟨j, hj, h2⟩ := ce_any_t.mp hq
    rw [Bool.and_eq_true, decide_eq_true_eq] at h2
    exact absurd h2.1 (hk j hj)
theorem cf_mem.no (h : cf_mem S n c mem) (hS : S 0 2 < 2 ^ n) {k : Nat} (hk : ∀ i, i < c → mem i ≠ k) : cd_held S k = false := by
  cases hh : cd_held S k with
  | false => rfl
  | true =>
    by_cases hn : k < n
    · obtain ⟨i, hi, e⟩ := h.2.2.2 k hn hh
      exact absurd e (hk i hi)
    · have hh : (S 0 2).testBit k = true := hh
      rw [cf_low hS (by omega)] at hh
      cases hh
theorem cf_mem.ext {a b : Nat} (h1 : ∀ i, i < c → a.testBit (mem i) = b.testBit (mem i)) (h2 : ∀ k, (∀ i, i < c → mem i ≠ k) → a.testBit k = b.testBit k) : a = b := by
  apply Nat.eq_of_testBit_eq
  intro k
  by_cases hk : ∃ i, i < c ∧ mem i = k
  · obtain ⟨i, hi, rfl⟩ := hk
    exact h1 i hi
  · exact h2 k (fun i hi e => hk ⟨i, hi, e⟩)
theorem cf_mem.T_tb (h : cf_mem S n c mem) {i d : Nat} (hi : i < c) : (cf_TT S mem n c d).testBit (mem i) = !d.testBit i := by
  unfold cf_TT
  rw [ce_an_tb, h.U_tb hi]
  have : (S 0 2).testBit (mem i) = true := (h.2.1 i hi).2
  rw [this, Bool.true_and]
theorem cf_mem.T_no (h : cf_mem S n c mem) (hS : S 0 2 < 2 ^ n) {k d : Nat} (hk : ∀ i, i < c → mem i ≠ k) : (cf_TT S mem n c d).testBit k = false := by
  unfold cf_TT
  rw [ce_an_tb]
  have : (S 0 2).testBit k = false := h.no hS hk
  rw [this, Bool.false_and]
theorem cf_mem.T_or (h : cf_mem S n c mem) (hS : S 0 2 < 2 ^ n) {i d : Nat} (hi : i < c) (hd : d.testBit i = false) : cf_TT S mem n c (d ||| 2 ^ i) = cf_TT S mem n c d ^^^ 2 ^ mem i := by
  refine cf_mem.ext (c := c) (mem := mem) (fun j hj => ?_) (fun k hk => ?_)
  · rw [h.T_tb hj, ce_xtb, h.T_tb hj, Nat.testBit_or, ce_2tb]
    by_cases hij : i = j
    · subst hij
      rw [hd, decide_eq_true rfl, decide_eq_true rfl]
      rfl
    · rw [decide_eq_false hij, decide_eq_false (fun q => hij (h.inj hi hj q)), Bool.or_false, Bool.xor_false]
  · rw [h.T_no hS hk, ce_xtb, h.T_no hS hk, decide_eq_false (hk i hi)]
    rfl
theorem cf_mem.T_0 (h : cf_mem S n c mem) (hS : S 0 2 < 2 ^ n) : cf_TT S mem n c 0 = S 0 2 := by
  refine cf_mem.ext (c := c) (mem := mem) (fun j hj => ?_) (fun k hk => ?_)
  · rw [h.T_tb hj, Nat.zero_testBit]
    exact (h.2.1 j hj).2.symm
  · rw [h.T_no hS hk]
    exact (h.no hS hk).symm
theorem cf_mem.T_lt (hS : S 0 2 < 2 ^ n) {d : Nat} : cf_TT S mem n c d < 2 ^ n := Nat.lt_of_le_of_lt (ce_an_le _ _) hS
theorem cf_mem.T_z (h : cf_mem S n c mem) (hS : S 0 2 < 2 ^ n) {d : Nat} (hd : d < 2 ^ c) : cf_TT S mem n c d = 0 ↔ d = 2 ^ c - 1 := by
  refine ⟨fun e => ?_, fun e => ?_⟩
  · apply Nat.eq_of_testBit_eq
    intro i
    rw [Nat.testBit_two_pow_sub_one]
    by_cases hi : i < c
    · have := h.T_tb (d := d) hi
      rw [e, Nat.zero_testBit] at this
      rw [decide_eq_true hi]
      cases hq : d.testBit i with
      | true => rfl
      | false => rw [hq] at this; cases this
    · rw [decide_eq_false hi, cf_low hd (by omega)]
  · refine cf_mem.ext (c := c) (mem := mem) (fun j hj => ?_) (fun k hk => ?_)
    · rw [h.T_tb hj, e, Nat.testBit_two_pow_sub_one, decide_eq_true hj, Nat.zero_testBit]
      rfl
    · rw [h.T_no hS hk, Nat.zero_testBit]
theorem cf_mem.T_U (h : cf_mem S n c mem) (hS : S 0 2 < 2 ^ n) {d : Nat} : ce_an (S 0 2) (cf_TT S mem n c d) = cf_U mem n c d := by
  refine cf_mem.ext (c := c) (mem := mem) (fun j hj => ?_) (fun k hk => ?_)
  · rw [ce_an_tb, h.T_tb hj, h.U_tb hj]
    have : (S 0 2).testBit (mem j) = true := (h.2.1 j hj).2
    rw [this, Bool.not_not, Bool.true_and]
  · rw [ce_an_tb, cf_mem.U_no hk]
    have : (S 0 2).testBit k = false := h.no hS hk
    rw [this, Bool.false_and]
theorem cf_mem.T_an (h : cf_mem S n c mem) (hS : S 0 2 < 2 ^ n) {d : Nat} : cf_U mem n c (ce_an (2 ^ c - 1) d) = cf_TT S mem n c d := by
  refine cf_mem.ext (c := c) (mem := mem) (fun j hj => ?_) (fun k hk => ?_)
  · rw [h.T_tb hj, h.U_tb hj, ce_an_tb, Nat.testBit_two_pow_sub_one, decide_eq_true hj, Bool.true_and]
  · rw [h.T_no hS hk, cf_mem.U_no hk]
/-- what is remembered of a set of members -/
def cf_gd (S : cd_S) (F : Nat → Bool) (mem : Nat → Nat) (n c d : Nat) : Bool := ce_gg F n (cf_TT S mem n c d) && (decide (d = 0) || F (cf_TT S mem n c d))
def cf_ni (S : cd_S) (F : Nat → Bool) (mem : Nat → Nat) (n c d : Nat) : Option Nat := ce_fst (fun i => !d.testBit i && cf_gd S F mem n c (d ||| 2 ^ i)) c 0
theorem cf_or_ne {d i : Nat} : d ||| 2 ^ i ≠ 0 := fun q => by
  have : (d ||| 2 ^ i).testBit i = true := by rw [Nat.testBit_or, ce_2tb, decide_eq_true rfl, Bool.or_true]
  rw [q, Nat.zero_testBit] at this
  cases this
theorem cf_mem.op (h : cf_mem S n c mem) (hS : S 0 2 < 2 ^ n) {F : Nat → Bool} {i d : Nat} (hi : i < c) : ce_op F n (cf_TT S mem n c d) (mem i) = (!d.testBit i && cf_gd S F mem n c (d ||| 2 ^ i)) := by
  unfold ce_op cf_gd
  rw [h.T_tb hi, decide_eq_false cf_or_ne, Bool.false_or]
  cases hd : d.testBit i with
  | true => rfl
  | false => rw [h.T_or hS hi hd, Bool.and_comm (F _)]
theorem cf_mem.nx (h : cf_mem S n c mem) (hS : S 0 2 < 2 ^ n) {F : Nat → Bool} {d : Nat} : ce_nxt F n (cf_TT S mem n c d) = (cf_ni S F mem n c d).map mem := by
  unfold ce_nxt
  have mem_of : ∀ k, ce_op F n (cf_TT S mem n c d) k = true → ∃ i, i < c ∧ mem i = k := fun k hk => by
    refine Classical.byContradiction (fun q => ?_)
    unfold ce_op at hk
    rw [h.T_no hS (fun i hi e => q ⟨i, hi, e⟩), Bool.false_and] at hk
    cases hk
  cases hf : cf_ni S F mem n c d with
  | none =>
    refine cf_fst_no (fun k hk => ?_)
    cases hq : ce_op F n (cf_TT S mem n c d) k with
    | false => rfl
    | true =>
      obtain ⟨i, hi, rfl⟩ := mem_of k hq
      rw [h.op hS hi] at hq
      have : (!d.testBit i && cf_gd S F mem n c (d ||| 2 ^ i)) = false := ce_fst_none hf i (Nat.zero_le _) (by omega)
      rw [this] at hq
      cases hq
  | some i =>
    obtain ⟨_, g2, g3, g4⟩ := ce_fst_some hf
    have hi : i < c := by omega
    refine cf_fst_is (h.2.1 i hi).1 ((h.op hS hi).trans g3) (fun k hk => ?_)
    cases hq : ce_op F n (cf_TT S mem n c d) k with
    | false => rfl
    | true =>
      obtain ⟨j, hj, rfl⟩ := mem_of k hq
      rw [h.op hS hj] at hq
      have : (!d.testBit j && cf_gd S F mem n c (d ||| 2 ^ j)) = false := g4 j (Nat.zero_le _) (h.mono hj hk)
      rw [this] at hq
      cases hq
theorem cf_mem.lead (h : cf_mem S n c mem) (hS : S 0 2 < 2 ^ n) {F : Nat → Bool} {d : Nat} (hd : d < 2 ^ c) : ce_gg F n (cf_TT S mem n c d) = (decide (d = 2 ^ c - 1) || (cf_ni S F mem n c d).isSome) := by
  have e : ce_any (ce_op F n (cf_TT S mem n c d)) n = (cf_ni S F mem n c d).isSome := by
    have hn := h.nx hS (F := F) (d := d)
    have ha := cf_fst_any (p := ce_op F n (cf_TT S mem n c d)) n 0
    unfold ce_nxt at hn
    rw [hn] at ha
    have hm : ((cf_ni S F mem n c d).map mem).isSome = (cf_ni S F mem n c d).isSome := by cases cf_ni S F mem n c d <;> rfl
    rw [hm] at ha
    rw [Bool.eq_iff_iff, ce_any_t, ha]
    exact ⟨fun ⟨k, h1, h2⟩ => ⟨k, Nat.zero_le _, by omega, h2⟩, fun ⟨k, _, h1, h2⟩ => ⟨k, by omega, h2⟩⟩
  rw [ce_gg_eq (cf_mem.T_lt hS), e]
  congr 1
  exact decide_eq_decide.mpr (h.T_z hS hd)
end CGW
/-- the first hold behind i members -/
def cf_E (mem : Nat → Nat) (i : Nat) : Nat := if i = 0 then 0 else mem (i - 1) + 1
theorem cf_hnds_skip {a m x : Nat} : ∀ y, x ≤ y → (∀ k, x ≤ k → k < y → a.testBit k = false) → ce_hnds a m y = ce_hnds a m x := by
  intro y
  induction y with
  | zero => intro h _; rw [show x = 0 by omega]
  | succ y ih =>
    intro h hk
    by_cases hx : x = y + 1
    · rw [hx]
    · have e : ce_hnds a m (y + 1) = if a.testBit y && decide (0 < (ce_hnds a m y).2) then ((ce_hnds a m y).1 + 2 ^ y, (ce_hnds a m y).2 - 1) else ce_hnds a m y := rfl
      rw [e, hk y (by omega) (by omega), Bool.false_and, if_neg (by decide), ih (by omega) (fun k h1 h2 => hk k h1 (by omega))]
section CGX
variable {S : cd_S} {mem : Nat → Nat} {n c : Nat}
theorem cf_mem.gap (h : cf_mem S n c mem) {i k : Nat} (hi : i ≤ c) (h1 : cf_E mem i ≤ k) (h2 : k < if i < c then mem i else n) : cd_held S k = false := by
  cases hh : cd_held S k with
  | false => rfl
  | true =>
    have hkn : k < n := by
      by_cases hic : i < c
      · rw [if_pos hic] at h2
        have := (h.2.1 i hic).1
        omega
      · rw [if_neg hic] at h2
        exact h2
    obtain ⟨j, hj, e⟩ := h.2.2.2 k hkn hh
    have hji : j < i := by
      by_cases hic : i < c
      · rw [if_pos hic] at h2
        exact h.mono hj (by omega)
      · omega
    unfold cf_E at h1
    rw [if_neg (by omega)] at h1
    by_cases hj2 : j = i - 1
    · subst hj2; omega
    · have := h.2.2.1 j (i - 1) (by omega) (by omega)
      omega
end CGX
