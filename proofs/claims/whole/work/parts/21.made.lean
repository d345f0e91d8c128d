/-! ===== the made memory ===== -/
def cd_WL : List (Nat × Nat × Nat) := [(100, 55, 132), (100, 53, 131), (100, 52, 130), (100, 51, 129), (100, 50, 128), (100, 49, 127), (100, 47, 126), (100, 46, 125), (100, 45, 124), (100, 44, 123), (100, 43, 122), (100, 42, 121), (100, 41, 120), (100, 37, 119), (100, 36, 118), (100, 35, 117), (100, 30, 116), (100, 28, 115), (100, 26, 114), (100, 17, 113), (100, 14, 112), (100, 13, 111), (100, 12, 110), (100, 11, 109), (100, 10, 108), (100, 8, 107), (100, 6, 106), (100, 5, 105), (100, 4, 104), (100, 3, 103), (100, 2, 102), (100, 1, 101), (2, 13, 83), (83, 19, 96), (96, 4, 99), (96, 3, 98), (96, 0, 97), (83, 15, 95), (83, 14, 94), (83, 13, 93), (83, 12, 92), (83, 11, 91), (83, 10, 90), (83, 9, 89), (83, 8, 88), (83, 7, 87), (83, 6, 86), (83, 5, 85), (83, 4, 84), (2, 12, 66), (66, 19, 79), (79, 4, 82), (79, 3, 81), (79, 0, 80), (66, 15, 78), (66, 14, 77), (66, 13, 76), (66, 12, 75), (66, 11, 74), (66, 10, 73), (66, 9, 72), (66, 8, 71), (66, 7, 70), (66, 6, 69), (66, 5, 68), (66, 4, 67), (2, 11, 65), (2, 10, 60), (60, 3, 64), (60, 2, 63), (60, 1, 62), (60, 0, 61), (2, 9, 59), (2, 8, 58), (2, 7, 49), (49, 1, 54), (54, 4, 57), (54, 3, 56), (54, 0, 55), (49, 0, 50), (50, 4, 53), (50, 3, 52), (50, 0, 51), (2, 6, 45), (45, 4, 48), (45, 3, 47), (45, 0, 46), (2, 5, 42), (42, 1, 44), (42, 0, 43), (2, 4, 38), (38, 2, 41), (38, 1, 40), (38, 0, 39), (2, 3, 32), (32, 4, 37), (32, 3, 36), (32, 2, 35), (32, 1, 34), (32, 0, 33), (2, 2, 21), (21, 4, 31), (21, 3, 30), (21, 2, 29), (21, 1, 26), (26, 1, 28), (26, 0, 27), (21, 0, 22), (22, 4, 25), (22, 3, 24), (22, 0, 23), (2, 1, 5), (5, 3, 20), (5, 2, 19), (5, 1, 18), (5, 0, 6), (6, 7, 14), (14, 2, 17), (14, 1, 16), (14, 0, 15), (6, 6, 13), (6, 5, 12), (6, 4, 11), (6, 3, 10), (6, 2, 9), (6, 1, 8), (6, 0, 7), (2, 0, 3), (3, 0, 4)]
def cd_WF : List (Nat × Nat × Nat) → Nat → Nat → Nat
  | [] => fun _ _ => 0
  | q :: r => cd_up (cd_WF r) q.1 q.2.1 q.2.2
set_option maxRecDepth 100000 in
theorem cd_WF_eq : cd_W129 = cd_WF cd_WL := rfl
/-- a look into the list of writes -/
def cd_wl : List (Nat × Nat × Nat) → Nat → Nat → Nat
  | [], _, _ => 0
  | q :: r, a, k => bif Nat.beq a q.1 && Nat.beq k q.2.1 then q.2.2 else cd_wl r a k
theorem cd_wl_eq : ∀ (l : List (Nat × Nat × Nat)) (a k : Nat), cd_WF l a k = cd_wl l a k := by
  intro l
  induction l with
  | nil => intro a k; rfl
  | cons q r ih =>
    intro a k
    show (if a = q.1 then (if k = q.2.1 then q.2.2 else cd_WF r a k) else cd_WF r a k) = bif Nat.beq a q.1 && Nat.beq k q.2.1 then q.2.2 else cd_wl r a k
    rw [ih]
    by_cases h1 : a = q.1
    · by_cases h2 : k = q.2.1
      · rw [if_pos h1, if_pos h2, h1, h2, Nat.beq_refl, Nat.beq_refl]
        rfl
      · rw [if_pos h1, if_neg h2, h1, Nat.beq_refl, show Nat.beq k q.2.1 = false from Bool.eq_false_iff.mpr fun h => h2 (Nat.eq_of_beq_eq_true h)]
        rfl
    · rw [if_neg h1, show Nat.beq a q.1 = false from Bool.eq_false_iff.mpr fun h => h1 (Nat.eq_of_beq_eq_true h)]
      rfl
def cd_rtv (a k : Nat) : Nat := (cd_RT.getD a []).getD k 0
theorem cd_ckA : cd_WL.all (fun q => Nat.beq (cd_rtv q.1 q.2.1) q.2.2) = true := by decide +kernel
def cd_key (a k : Nat) : Bool := cd_WL.any (fun q => Nat.beq a q.1 && Nat.beq k q.2.1)
def cd_rowB (a : Nat) : Nat → List Nat → Bool
  | _, [] => true
  | k, v :: r => (Nat.beq v 0 || cd_key a k) && cd_rowB a (k + 1) r
def cd_tabB : Nat → List (List Nat) → Bool
  | _, [] => true
  | a, r :: t => cd_rowB a 0 r && cd_tabB (a + 1) t
set_option maxRecDepth 100000 in
theorem cd_ckB : cd_tabB 0 cd_RT = true := by decide +kernel
theorem cd_rowB_at {a : Nat} : ∀ (r : List Nat) (k0 j : Nat), cd_rowB a k0 r = true → r.getD j 0 ≠ 0 → cd_key a (k0 + j) = true := by
  intro r
  induction r with
  | nil => intro k0 j _ h; exact absurd rfl h
  | cons v r ih =>
    intro k0 j h1 h2
    unfold cd_rowB at h1
    rw [Bool.and_eq_true] at h1
    cases j with
    | zero =>
      have h3 : v ≠ 0 := h2
      rcases Bool.or_eq_true _ _ ▸ h1.1 with h | h
      · exact absurd (Nat.eq_of_beq_eq_true h) h3
      · exact h
    | succ j =>
      have h4 := ih (k0 + 1) j h1.2 h2
      rw [show k0 + (j + 1) = k0 + 1 + j by omega]
      exact h4
theorem cd_tabB_at : ∀ (t : List (List Nat)) (a0 i j : Nat), cd_tabB a0 t = true → (t.getD i []).getD j 0 ≠ 0 → cd_key (a0 + i) j = true := by
  intro t
  induction t with
  | nil => intro a0 i j _ h; exact absurd rfl h
  | cons r t ih =>
    intro a0 i j h1 h2
    unfold cd_tabB at h1
    rw [Bool.and_eq_true] at h1
    cases i with
    | zero =>
      have h3 := cd_rowB_at r 0 j h1.1 h2
      rw [Nat.zero_add] at h3
      exact h3
    | succ i =>
      have h4 := ih (a0 + 1) i j h1.2 h2
      rw [show a0 + (i + 1) = a0 + 1 + i by omega]
      exact h4
theorem cd_wl_no {a k : Nat} : ∀ (l : List (Nat × Nat × Nat)), l.any (fun q => Nat.beq a q.1 && Nat.beq k q.2.1) = false → cd_wl l a k = 0 := by
  intro l
  induction l with
  | nil => intro _; rfl
  | cons q r ih =>
    intro h
    rw [List.any_cons, Bool.or_eq_false_iff] at h
    show (bif Nat.beq a q.1 && Nat.beq k q.2.1 then q.2.2 else cd_wl r a k) = 0
    rw [h.1]
    exact ih h.2
theorem cd_wl_yes {a k : Nat} : ∀ (l : List (Nat × Nat × Nat)), l.all (fun q => Nat.beq (cd_rtv q.1 q.2.1) q.2.2) = true → l.any (fun q => Nat.beq a q.1 && Nat.beq k q.2.1) = true → cd_wl l a k = cd_rtv a k := by
  intro l
  induction l with
  | nil => intro _ h; cases h
  | cons q r ih =>
    intro h1 h
    rw [List.all_cons, Bool.and_eq_true] at h1
    show (bif Nat.beq a q.1 && Nat.beq k q.2.1 then q.2.2 else cd_wl r a k) = _
    cases hq : Nat.beq a q.1 && Nat.beq k q.2.1 with
    | true =>
      rw [Bool.and_eq_true] at hq
      rw [Nat.eq_of_beq_eq_true hq.1, Nat.eq_of_beq_eq_true hq.2]
      exact (Nat.eq_of_beq_eq_true h1.1).symm
    | false =>
      rw [List.any_cons, hq, Bool.false_or] at h
      exact ih h1.2 h
theorem cd_RF_f (a k : Nat) : cd_RF false a k = (cd_RT.getD a []).getD k 0 := by
  unfold cd_RF
  cases h : Nat.beq a 2 with
  | false => rfl
  | true =>
    have ha := Nat.eq_of_beq_eq_true h
    subst ha
    cases h2 : Nat.beq k 12 with
    | true =>
      have hk := Nat.eq_of_beq_eq_true h2
      subst hk
      rfl
    | false =>
      cases h3 : Nat.beq k 13 with
      | true =>
        have hk := Nat.eq_of_beq_eq_true h3
        subst hk
        rfl
      | false => rfl
theorem cd_W_RF : cd_W129 = cd_RF false := by
  funext a k
  rw [cd_WF_eq, cd_wl_eq, cd_RF_f]
  show _ = cd_rtv a k
  cases h : cd_key a k with
  | true => exact cd_wl_yes cd_WL cd_ckA h
  | false =>
    rw [cd_wl_no cd_WL h]
    by_cases h0 : cd_rtv a k = 0
    · exact h0.symm
    · have h1 := cd_tabB_at cd_RT 0 a k cd_ckB h0
      rw [Nat.zero_add, h] at h1
      cases h1
/-- the ints of the made memory -/
def cd_I0 (xs : Nat → Int32) : Nat → Nat → Int32 := cd_V21 xs
theorem cd_made2 {L : Nat} {xs : Nat → Int32} {r : cd_Ret} (h : cd_go 246 10 [.ref 1, .ref 2, .ref 100, .int 0] [] (cd_mm L false (cd_I0 xs) (fun _ _ => 0)) = some r) : cd_go 246 0 [.ref 1, .null, .null, .null] [] (cd_M0 L xs) = some r := by
  refine cd_made ?_
  rw [cd_W_RF]
  exact h
set_option maxRecDepth 100000 in
theorem cd_KL_len (L : Nat) : (cd_KL L).length = 133 := rfl
set_option maxRecDepth 100000 in
theorem cd_KL_sl (L : Nat) : cd_sl (cd_KL L) = L + 23689 := by
  simp [cd_sl, cd_KL]
  try omega
/-- what is left of the law: its loop, from the made memory -/
def cd_Loop : Prop := ∀ (L : Nat) (xs : Nat → Int32), L ≤ 2560 → ∃ (w : Bool) (I : Nat → Nat → Int32) (J : Nat → Nat → Int64), cd_go 246 10 [.ref 1, .ref 2, .ref 100, .int 0] [] (cd_mm L false (cd_I0 xs) (fun _ _ => 0)) = some (some (.int 1), cd_mm L w I J)
theorem cd_law_of (h : cd_Loop) : cd_Law := fun L xs hL => by
  obtain ⟨w, I, J, h1⟩ := h L xs hL
  refine ⟨cd_mm L w I J, cd_made2 h1, ?_, ?_⟩
  · show (cd_KL L).length ≤ 133
    rw [cd_KL_len]
    exact Nat.le_refl _
  · show cd_sl (cd_KL L) ≤ L + 23689
    rw [cd_KL_sl]
    exact Nat.le_refl _
