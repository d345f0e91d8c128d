/-! ===== the check of the law, in pieces ===== -/
def cd_chkS (y : Nat) (cc : ByteArray) : Nat → Nat → List cd_O → Bool
  | 0, _, _ => true
  | _ + 1, _, [] => true
  | n + 1, ii, o :: nx => cd_chk1 y cc ii o nx && cd_chkS y cc n (ii + 1) nx
def cd_chkP (y n ii : Nat) : Bool := match cd_cc y with
  | ⟨b⟩ => cd_chkS y ⟨b⟩ n ii ((cd_body y).drop ii)
theorem cd_chkS_L {y : Nat} {cc : ByteArray} : ∀ (n ii : Nat) (l : List cd_O), cd_chkS y cc n ii l = true → cd_chkL y cc (ii + n) (l.drop n) = true → cd_chkL y cc ii l = true := by
  intro n
  induction n with
  | zero => intro ii l _ h; exact h
  | succ n ih =>
    intro ii l h1 h2
    cases l with
    | nil => rfl
    | cons o nx =>
      unfold cd_chkS at h1
      unfold cd_chkL
      rw [Bool.and_eq_true] at h1 ⊢
      refine ⟨h1.1, ih (ii + 1) nx h1.2 ?_⟩
      rw [List.drop_succ_cons] at h2
      rw [show ii + 1 + n = ii + (n + 1) by omega]
      exact h2
theorem cd_chkP_L {y n ii jj : Nat} (h1 : cd_chkP y n ii = true) (hj : ii + n = jj) (h2 : cd_chkL y (cd_cc y) jj ((cd_body y).drop jj) = true) : cd_chkL y (cd_cc y) ii ((cd_body y).drop ii) = true := by
  subst hj
  refine cd_chkS_L n ii _ h1 ?_
  rw [List.drop_drop]
  exact h2
set_option maxRecDepth 1000000 in
theorem cd_chkp0 : cd_chkP 246 75 0 = true := by decide +kernel
set_option maxRecDepth 1000000 in
theorem cd_chkp75 : cd_chkP 246 75 75 = true := by decide +kernel
set_option maxRecDepth 1000000 in
theorem cd_chkp150 : cd_chkP 246 75 150 = true := by decide +kernel
set_option maxRecDepth 1000000 in
theorem cd_chkp225 : cd_chkP 246 75 225 = true := by decide +kernel
set_option maxRecDepth 1000000 in
theorem cd_chkp300 : cd_chkP 246 75 300 = true := by decide +kernel
set_option maxRecDepth 1000000 in
theorem cd_chkp375 : cd_chkP 246 75 375 = true := by decide +kernel
set_option maxRecDepth 1000000 in
theorem cd_chkp450 : cd_chkP 246 75 450 = true := by decide +kernel
set_option maxRecDepth 1000000 in
theorem cd_chkp525 : cd_chkP 246 75 525 = true := by decide +kernel
set_option maxRecDepth 1000000 in
theorem cd_chkp600 : cd_chkP 246 75 600 = true := by decide +kernel
set_option maxRecDepth 1000000 in
theorem cd_chkp675 : cd_chkP 246 75 675 = true := by decide +kernel
theorem cd_chk_y246 : cd_chk 246 = true := by
  have hend : cd_chkL 246 (cd_cc 246) 750 ((cd_body 246).drop 750) = true := by
    rw [List.drop_eq_nil_of_le (by decide +kernel)]
    rfl
  have h : cd_chkL 246 (cd_cc 246) 0 ((cd_body 246).drop 0) = true := (cd_chkP_L cd_chkp0 rfl (cd_chkP_L cd_chkp75 rfl (cd_chkP_L cd_chkp150 rfl (cd_chkP_L cd_chkp225 rfl (cd_chkP_L cd_chkp300 rfl (cd_chkP_L cd_chkp375 rfl (cd_chkP_L cd_chkp450 rfl (cd_chkP_L cd_chkp525 rfl (cd_chkP_L cd_chkp600 rfl (cd_chkP_L cd_chkp675 rfl hend))))))))))
  unfold cd_chk
  rw [Bool.and_eq_true]
  exact ⟨by decide +kernel, h⟩
