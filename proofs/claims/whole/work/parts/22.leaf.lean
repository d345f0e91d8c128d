/-! ===== leaves: what the small methods answer ===== -/
/-- a truth as an int -/
def cd_tf (c : Bool) : Int32 := if c then 1 else 0
theorem cd_tf_and (c : Bool) : cd_tf c &&& 1 = cd_tf c := by cases c <;> decide
theorem cd_tf_0 {c : Bool} : cd_tf c = 0 ↔ c = false := by cases c <;> decide
section CDL
variable {L : Nat} {w : Bool} {I : Nat → Nat → Int32} {J : Nat → Nat → Int64}
theorem cp_138 (a b c : Int64) : cd_c 138 [.long a, .long b, .long c] (cd_mm L w I J) = some (some (.int (cd_tf (decide (b ≤ a) && decide (a ≤ c)))), cd_mm L w I J) := by
  refine cd_c_of (l := [.long a, .null, .long b, .null, .long c, .null]) rfl rfl (cd_s138_0 ?_)
  have h1 : lg_cmp a b < 0 ↔ ¬ b ≤ a := by rw [← lg_cmp_ge, Int32.not_le]
  have h2 : 0 < lg_cmp a c ↔ ¬ a ≤ c := by
    unfold lg_cmp
    rw [Int64.not_le]
    by_cases h : c < a
    · simp only [gt_iff_lt, h, if_true, iff_true]; decide
    · simp only [gt_iff_lt, h, if_false, iff_false]
      split <;> decide
  by_cases hb : b ≤ a
  · rw [if_neg (fun h => (h1.mp h) hb)]
    by_cases hc : a ≤ c
    · rw [if_neg (fun h => (h2.mp h) hc), decide_eq_true hb, decide_eq_true hc]
      rfl
    · rw [if_pos (h2.mpr hc), decide_eq_true hb, decide_eq_false hc]
      rfl
  · rw [if_pos (h1.mpr hb), decide_eq_false hb]
    rfl
theorem cp_139 (a b : Int32) : cd_c 139 [.int a, .int b] (cd_mm L w I J) = some (some (.int (cd_tf (decide ((a >>> (b &&& 31)) &&& 1 = 1)))), cd_mm L w I J) := by
  refine cd_c_of (l := [.int a, .int b]) rfl rfl (cd_s139_0 ?_)
  by_cases h : (a >>> (b &&& 31)) &&& 1 = 1
  · rw [if_pos h, decide_eq_true h]; rfl
  · rw [if_neg h, decide_eq_false h]; rfl
theorem cp_140 (a : Int32) : cd_c 140 [.int a] (cd_mm L w I J) = some (some (.int (cd_tf (decide (0 ≤ a) && decide (a ≤ 63)))), cd_mm L w I J) := by
  refine cd_c_of (l := [.int a]) rfl rfl (cd_s140_0 (cd_ci_s.mpr ⟨_, _, cp_138 _ _ _, cd_s140_5 ?_⟩))
  rw [show (0 : Int64) = (0 : Int32).toInt64 from rfl, show (63 : Int64) = (63 : Int32).toInt64 from rfl]
  simp only [fa_wide_le]
  rw [if_pos (cd_tf_and _)]
theorem cp_144 (a : Int32) : cd_c 144 [.int a] (cd_mm L w I J) = some (some (.int (if a < 0 then -a else a)), cd_mm L w I J) := by
  refine cd_c_of (l := [.int a]) rfl rfl (cd_s144_0 ?_)
  split <;> rfl
theorem cp_145 (a : Int32) : cd_c 145 [.int a] (cd_mm L w I J) = some (some (.int (if a < 0 then -1 else if 0 < a then 1 else 0)), cd_mm L w I J) := by
  refine cd_c_of (l := [.int a]) rfl rfl (cd_s145_0 ?_)
  split
  · rfl
  · split <;> rfl
theorem cp_56 (a : Int32) : cd_c 56 [.int a] (cd_mm L w I J) = some (some (.int (if 0 < a then 1 else if a < 0 then -1 else 0)), cd_mm L w I J) := by
  refine cd_c_of (l := [.int a]) rfl rfl (cd_s56_0 ?_)
  split
  · rfl
  · split <;> rfl
end CDL
