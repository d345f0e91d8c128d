/-! ===== the making of the two objects ===== -/
def cd_Z {α : Type} (n : Nat) (F : Nat → Nat → α) (z : α) : Prop := ∀ a, n ≤ a → F a = fun _ => z
theorem cd_Z.mono {α : Type} {n m : Nat} {F : Nat → Nat → α} {z : α} (h : cd_Z n F z) (hm : n ≤ m) : cd_Z m F z := fun a ha => h a (Nat.le_trans hm ha)
theorem cd_Z.up {α : Type} {n : Nat} {F : Nat → Nat → α} {z : α} (h : cd_Z n F z) {a k : Nat} {v : α} (ha : a < n) : cd_Z n (cd_up F a k v) z := fun b hb => by
  rw [← h b hb]
  funext j
  unfold cd_up
  rw [if_neg (by omega)]
theorem cd_newz {K : List (Nat × Nat)} {I : Nat → Nat → Int32} {J : Nat → Nat → Int64} {R : Nat → Nat → Nat} {t m n : Nat} (hn : K.length = n) (hI : I n = fun _ => 0) (hJ : J n = fun _ => 0) (hR : R n = fun _ => 0) : cd_new (K, I, J, R) t m = (K ++ [(t, m)], I, J, R) := by
  subst hn
  have h : ∀ {α : Type} (F : Nat → Nat → α) (z : α), F K.length = (fun _ => z) → (fun a => if a = K.length then (fun _ => z) else F a) = F := fun F z hF => by
    funext a
    by_cases ha : a = K.length
    · rw [if_pos ha, ha, hF]
    · rw [if_neg ha]
  unfold cd_new
  show (K ++ [(t, m)], (fun a => if a = K.length then (fun _ => 0) else I a), (fun a => if a = K.length then (fun _ => 0) else J a), (fun a => if a = K.length then (fun _ => 0) else R a)) = _
  rw [h I 0 hI, h J 0 hJ, h R 0 hR]
theorem cd_wIz {K : List (Nat × Nat)} {I : Nat → Nat → Int32} {J : Nat → Nat → Int64} {R : Nat → Nat → Nat} {a k : Nat} {v : Int32} (h : I a k = v) : cd_wI (K, I, J, R) a k v = (K, I, J, R) := by
  have e : cd_up I a k v = I := by
    funext b j
    unfold cd_up
    by_cases hb : b = a
    · by_cases hj : j = k
      · rw [if_pos hb, if_pos hj, hb, hj, h]
      · rw [if_pos hb, if_neg hj]
    · rw [if_neg hb]
  show (K, cd_up I a k v, J, R) = _
  rw [e]
theorem cd_wLz {K : List (Nat × Nat)} {I : Nat → Nat → Int32} {J : Nat → Nat → Int64} {R : Nat → Nat → Nat} {a k : Nat} {v : Int64} (h : J a k = v) : cd_wL (K, I, J, R) a k v = (K, I, J, R) := by
  have e : cd_up J a k v = J := by
    funext b j
    unfold cd_up
    by_cases hb : b = a
    · by_cases hj : j = k
      · rw [if_pos hb, if_pos hj, hb, hj, h]
      · rw [if_pos hb, if_neg hj]
    · rw [if_neg hb]
  show (K, I, cd_up J a k v, R) = _
  rw [e]
theorem cd_gom {y i : Nat} {ls st : List Value} {M M' : cd_M} {r : cd_Ret} (e : M = M') (h : cd_go y i ls st M' = some r) : cd_go y i ls st M = some r := e ▸ h
theorem cd_cvb {y : Nat} {a : List Value} {M M' M2 : cd_M} {f : cd_M → Option cd_Ret} {r : cd_Ret} (e : M = M') (hc : cd_c y a M' = some (none, M2)) (h : f M2 = some r) : ((cd_cv (cd_c y a M)).bind f) = some r := by
  subst e
  rw [hc]
  exact h
theorem cd_g3 {x : Int32} {m : Nat} (h : (decide (x < 0) || (decide (65536 < x) || !(Nat.blt m 900))) = false) : ¬ (x < 0 ∨ 65536 < x ∨ ¬ m < 900) := by
  simp only [Bool.or_eq_false_iff, decide_eq_false_iff_not, Bool.not_eq_false'] at h
  rintro (q | q | q)
  · exact h.1 q
  · exact h.2.1 q
  · exact q (Nat.le_of_ble_eq_true h.2.2)
theorem cd_fill2L {o n : Nat} {v : Int32} {K : List (Nat × Nat)} {J : Nat → Nat → Int64} {R : Nat → Nat → Nat} {I0 : Nat → Nat → Int32} (hk : (K.getD o (99, 0)) = (20, n)) (hn : n < 2 ^ 31) : ∀ (d i : Nat), i + d = n → cd_go 2 5 [.ref o, .int v, .int (nI i), .int (nI n)] [] (K, (fun a k => if a = o then (if k < i then v else I0 a k) else I0 a k), J, R) = some (none, (K, (fun a k => if a = o then (if k < n then v else I0 a k) else I0 a k), J, R)) := by
  intro d
  induction d with
  | zero =>
    intro i hi
    obtain rfl : i = n := by omega
    refine cd_q2_5 ((if_neg (nI_nlt (Nat.le_refl _) hn)).trans rfl)
  | succ d ih =>
    intro i hi
    have g1 : cd_k (K, (fun a k => if a = o then (if k < i then v else I0 a k) else I0 a k), J, R) o = 20 := by
      show (K.getD o (99, 0)).1 = 20
      rw [hk]
    have g2 : cd_in (nI i) (cd_n (K, (fun a k => if a = o then (if k < i then v else I0 a k) else I0 a k), J, R) o) = true := by
      show cd_in (nI i) (K.getD o (99, 0)).2 = true
      rw [hk]
      exact decide_eq_true (nI_in (by omega) hn)
    refine cd_q2_5 ((if_pos (nI_lt (by omega) hn)).trans ((if_pos ⟨g1, g2⟩).trans ?_))
    · have h := ih (i + 1) (by omega)
      rw [nI_clamp (by omega), ← nI_succ]
      have e : cd_wI (K, (fun a k => if a = o then (if k < i then v else I0 a k) else I0 a k), J, R) o i v = (K, (fun a k => if a = o then (if k < i + 1 then v else I0 a k) else I0 a k), J, R) := by
        show (K, cd_up _ o i v, J, R) = _
        have e2 : cd_up (fun a k => if a = o then (if k < i then v else I0 a k) else I0 a k) o i v = (fun a k => if a = o then (if k < i + 1 then v else I0 a k) else I0 a k) := by
          funext a k
          show (if a = o then (if k = i then v else (if a = o then (if k < i then v else I0 a k) else I0 a k)) else (if a = o then (if k < i then v else I0 a k) else I0 a k)) = (if a = o then (if k < i + 1 then v else I0 a k) else I0 a k)
          by_cases ha : a = o
          · rw [if_pos ha, if_pos ha, if_pos ha]
            by_cases hk2 : k = i
            · rw [if_pos hk2, if_pos (by omega)]
            · rw [if_neg hk2]
              by_cases hk3 : k < i
              · rw [if_pos hk3, if_pos (by omega)]
              · rw [if_neg hk3, if_neg (by omega)]
          · rw [if_neg ha, if_neg ha, if_neg ha]
        rw [e2]
      rw [e]
      exact h
theorem cd_fill2 {o n : Nat} {v : Int32} {K : List (Nat × Nat)} {J : Nat → Nat → Int64} {R : Nat → Nat → Nat} {I0 : Nat → Nat → Int32} (hk : (K.getD o (99, 0)) = (20, n)) (hl : cd_ent 2 [.ref o, .int v] = [.ref o, .int v, .null, .null]) (hn : n < 2 ^ 31) : cd_c 2 [.ref o, .int v] (K, I0, J, R) = some (none, (K, (fun a k => if a = o then (if k < n then v else I0 a k) else I0 a k), J, R)) := by
  refine cd_c_of hl rfl ?_
  refine cd_q2_0 ((if_pos ?_).trans ?_)
  · show (K.getD o (99, 0)).1 = 20
    rw [hk]
  · have h := cd_fill2L (v := v) (J := J) (R := R) (I0 := I0) hk hn n 0 (by omega)
    have e : (fun a k => if a = o then (if k < 0 then v else I0 a k) else I0 a k) = I0 := by
      funext a k
      rw [if_neg (Nat.not_lt_zero k)]
      split <;> rfl
    rw [e] at h
    show cd_go 2 5 [.ref o, .int v, .int 0, .int (nI (K.getD o (99, 0)).2)] [] _ = _
    rw [hk]
    exact h
def cd_V0 (xs : Nat → Int32) : Nat → Nat → Int32 := fun a k => if a = 1 then xs k else 0
theorem cd_VZ0 (xs : Nat → Int32) : cd_Z 2 (cd_V0 xs) 0 := fun a h => by
  funext k
  show (if a = 1 then _ else _) = _
  rw [if_neg (by omega)]
def cd_W0 : Nat → Nat → Nat := fun _ _ => 0
theorem cd_WZ0 : cd_Z 2 cd_W0 0 := fun a h => rfl
def cd_W1 : Nat → Nat → Nat := cd_up cd_W0 3 0 4
theorem cd_WZ1 : cd_Z 5 cd_W1 0 := (cd_WZ0.mono (by decide)).up (by decide)
def cd_V1 (xs : Nat → Int32) : Nat → Nat → Int32 := cd_up (cd_V0 xs) 3 8 (-1)
theorem cd_VZ1 (xs : Nat → Int32) : cd_Z 5 (cd_V1 xs) 0 := ((cd_VZ0 xs).mono (by decide)).up (by decide)
set_option maxRecDepth 100000 in
set_option maxHeartbeats 4000000 in
theorem cd_mk1 {L : Nat} {xs : Nat → Int32} : cd_c 0 [.ref 3] ((cd_KL L).take 4, cd_V0 xs, (fun _ _ => 0), cd_W0) = some (none, ((cd_KL L).take 5, cd_V1 xs, (fun _ _ => 0), cd_W1)) := by
  refine cd_c_of (l := [.ref 3]) rfl rfl ?_
  refine cd_q0_0 ?_
  refine (if_pos (by decide)).trans ?_
  refine (if_neg (cd_g3 rfl)).trans ?_
  refine (if_pos rfl).trans ?_
  refine cd_gom (M' := ((cd_KL L).take 5, cd_V0 xs, (fun _ _ => 0), cd_W1)) (by
    rw [cd_newz (t := 20) (m := 500) (n := 4) rfl ((cd_VZ0 xs).mono (by decide) _ (Nat.le_refl _)) rfl (cd_WZ0.mono (by decide) _ (Nat.le_refl _))]
    try rfl) ?_
  show cd_go 0 6 [.ref 3] [] ((cd_KL L).take 5, cd_V0 xs, (fun _ _ => 0), cd_W1) = _
  refine cd_q0_6 ?_
  refine (if_pos rfl).trans ?_
  refine cd_gom (M' := ((cd_KL L).take 5, cd_V0 xs, (fun _ _ => 0), cd_W1)) (by
    rw [cd_wIz (by rfl)]
    try rfl) ?_
  show cd_go 0 9 [.ref 3] [] ((cd_KL L).take 5, cd_V0 xs, (fun _ _ => 0), cd_W1) = _
  refine cd_q0_9 ?_
  refine (if_pos rfl).trans ?_
  refine cd_gom (M' := ((cd_KL L).take 5, cd_V0 xs, (fun _ _ => 0), cd_W1)) (by
    rw [cd_wIz (by rfl)]
    try rfl) ?_
  show cd_go 0 12 [.ref 3] [] ((cd_KL L).take 5, cd_V0 xs, (fun _ _ => 0), cd_W1) = _
  refine cd_q0_12 ?_
  refine (if_pos rfl).trans ?_
  refine cd_gom (M' := ((cd_KL L).take 5, cd_V0 xs, (fun _ _ => 0), cd_W1)) (by
    rw [cd_wIz (by rfl)]
    try rfl) ?_
  show cd_go 0 15 [.ref 3] [] ((cd_KL L).take 5, cd_V0 xs, (fun _ _ => 0), cd_W1) = _
  refine cd_q0_15 ?_
  refine (if_pos rfl).trans ?_
  refine cd_gom (M' := ((cd_KL L).take 5, cd_V0 xs, (fun _ _ => 0), cd_W1)) (by
    rw [cd_wIz (by rfl)]
    try rfl) ?_
  show cd_go 0 18 [.ref 3] [] ((cd_KL L).take 5, cd_V0 xs, (fun _ _ => 0), cd_W1) = _
  refine cd_q0_18 ?_
  refine (if_pos rfl).trans ?_
  refine cd_gom (M' := ((cd_KL L).take 5, cd_V0 xs, (fun _ _ => 0), cd_W1)) (by
    rw [cd_wIz (by rfl)]
    try rfl) ?_
  show cd_go 0 21 [.ref 3] [] ((cd_KL L).take 5, cd_V0 xs, (fun _ _ => 0), cd_W1) = _
  refine cd_q0_21 ?_
  refine (if_pos rfl).trans ?_
  refine cd_gom (M' := ((cd_KL L).take 5, cd_V0 xs, (fun _ _ => 0), cd_W1)) (by
    rw [cd_wIz (by rfl)]
    try rfl) ?_
  show cd_go 0 24 [.ref 3] [] ((cd_KL L).take 5, cd_V0 xs, (fun _ _ => 0), cd_W1) = _
  refine cd_q0_24 ?_
  refine (if_pos rfl).trans ?_
  refine cd_gom (M' := ((cd_KL L).take 5, cd_V0 xs, (fun _ _ => 0), cd_W1)) (by
    rw [cd_wIz (by rfl)]
    try rfl) ?_
  show cd_go 0 27 [.ref 3] [] ((cd_KL L).take 5, cd_V0 xs, (fun _ _ => 0), cd_W1) = _
  refine cd_q0_27 ?_
  refine (if_pos rfl).trans ?_
  refine cd_gom (M' := ((cd_KL L).take 5, cd_V1 xs, (fun _ _ => 0), cd_W1)) (by
    try rfl) ?_
  show cd_go 0 30 [.ref 3] [] ((cd_KL L).take 5, cd_V1 xs, (fun _ _ => 0), cd_W1) = _
  refine cd_q0_30 ?_
  rfl
def cd_W2 : Nat → Nat → Nat := cd_up cd_W1 2 0 3
theorem cd_WZ2 : cd_Z 5 cd_W2 0 := (cd_WZ1.mono (by decide)).up (by decide)
def cd_W3 : Nat → Nat → Nat := cd_up cd_W2 6 0 7
theorem cd_WZ3 : cd_Z 8 cd_W3 0 := (cd_WZ2.mono (by decide)).up (by decide)
def cd_W4 : Nat → Nat → Nat := cd_up cd_W3 6 1 8
theorem cd_WZ4 : cd_Z 9 cd_W4 0 := (cd_WZ3.mono (by decide)).up (by decide)
def cd_W5 : Nat → Nat → Nat := cd_up cd_W4 6 2 9
theorem cd_WZ5 : cd_Z 10 cd_W5 0 := (cd_WZ4.mono (by decide)).up (by decide)
def cd_W6 : Nat → Nat → Nat := cd_up cd_W5 6 3 10
theorem cd_WZ6 : cd_Z 11 cd_W6 0 := (cd_WZ5.mono (by decide)).up (by decide)
def cd_W7 : Nat → Nat → Nat := cd_up cd_W6 6 4 11
theorem cd_WZ7 : cd_Z 12 cd_W7 0 := (cd_WZ6.mono (by decide)).up (by decide)
def cd_W8 : Nat → Nat → Nat := cd_up cd_W7 6 5 12
theorem cd_WZ8 : cd_Z 13 cd_W8 0 := (cd_WZ7.mono (by decide)).up (by decide)
def cd_W9 : Nat → Nat → Nat := cd_up cd_W8 6 6 13
theorem cd_WZ9 : cd_Z 14 cd_W9 0 := (cd_WZ8.mono (by decide)).up (by decide)
def cd_W10 : Nat → Nat → Nat := cd_up cd_W9 14 0 15
theorem cd_WZ10 : cd_Z 16 cd_W10 0 := (cd_WZ9.mono (by decide)).up (by decide)
def cd_W11 : Nat → Nat → Nat := cd_up cd_W10 14 1 16
theorem cd_WZ11 : cd_Z 17 cd_W11 0 := (cd_WZ10.mono (by decide)).up (by decide)
def cd_W12 : Nat → Nat → Nat := cd_up cd_W11 14 2 17
theorem cd_WZ12 : cd_Z 18 cd_W12 0 := (cd_WZ11.mono (by decide)).up (by decide)
set_option maxRecDepth 100000 in
set_option maxHeartbeats 4000000 in
theorem cd_mk2 {L : Nat} {xs : Nat → Int32} : cd_c 1 [.ref 14] ((cd_KL L).take 15, cd_V1 xs, (fun _ _ => 0), cd_W9) = some (none, ((cd_KL L).take 18, cd_V1 xs, (fun _ _ => 0), cd_W12)) := by
  refine cd_c_of (l := [.ref 14]) rfl rfl ?_
  refine cd_q1_0 ?_
  refine (if_pos (by decide)).trans ?_
  refine (if_neg (cd_g3 rfl)).trans ?_
  refine (if_pos rfl).trans ?_
  refine cd_gom (M' := ((cd_KL L).take 16, cd_V1 xs, (fun _ _ => 0), cd_W10)) (by
    rw [cd_newz (t := 20) (m := 192) (n := 15) rfl ((cd_VZ1 xs).mono (by decide) _ (Nat.le_refl _)) rfl (cd_WZ9.mono (by decide) _ (Nat.le_refl _))]
    try rfl) ?_
  show cd_go 1 6 [.ref 14] [] ((cd_KL L).take 16, cd_V1 xs, (fun _ _ => 0), cd_W10) = _
  refine cd_q1_6 ?_
  refine (if_neg (cd_g3 rfl)).trans ?_
  refine (if_pos rfl).trans ?_
  refine cd_gom (M' := ((cd_KL L).take 17, cd_V1 xs, (fun _ _ => 0), cd_W11)) (by
    rw [cd_newz (t := 20) (m := 192) (n := 16) rfl ((cd_VZ1 xs).mono (by decide) _ (Nat.le_refl _)) rfl (cd_WZ10.mono (by decide) _ (Nat.le_refl _))]
    try rfl) ?_
  show cd_go 1 10 [.ref 14] [] ((cd_KL L).take 17, cd_V1 xs, (fun _ _ => 0), cd_W11) = _
  refine cd_q1_10 ?_
  refine (if_neg (cd_g3 rfl)).trans ?_
  refine (if_pos rfl).trans ?_
  refine cd_gom (M' := ((cd_KL L).take 18, cd_V1 xs, (fun _ _ => 0), cd_W12)) (by
    rw [cd_newz (t := 20) (m := 64) (n := 17) rfl ((cd_VZ1 xs).mono (by decide) _ (Nat.le_refl _)) rfl (cd_WZ11.mono (by decide) _ (Nat.le_refl _))]
    try rfl) ?_
  show cd_go 1 14 [.ref 14] [] ((cd_KL L).take 18, cd_V1 xs, (fun _ _ => 0), cd_W12) = _
  refine cd_q1_14 ?_
  rfl
def cd_W13 : Nat → Nat → Nat := cd_up cd_W12 6 7 14
theorem cd_WZ13 : cd_Z 18 cd_W13 0 := (cd_WZ12.mono (by decide)).up (by decide)
def cd_V2 (xs : Nat → Int32) : Nat → Nat → Int32 := fun o k => if o = 8 then (if k < 256 then -1 else cd_V1 xs o k) else cd_V1 xs o k
theorem cd_VZ2 (xs : Nat → Int32) : cd_Z 18 (cd_V2 xs) 0 := fun a h => by
  have h1 := ((cd_VZ1 xs).mono (m := 18) (by decide)) a h
  funext k
  show (if a = 8 then _ else _) = _
  rw [if_neg (by omega), h1]
set_option maxRecDepth 100000 in
set_option maxHeartbeats 4000000 in
theorem cd_mk3 {L : Nat} {xs : Nat → Int32} : cd_c 3 [.ref 6] ((cd_KL L).take 7, cd_V1 xs, (fun _ _ => 0), cd_W2) = some (none, ((cd_KL L).take 18, cd_V2 xs, (fun _ _ => 0), cd_W13)) := by
  refine cd_c_of (l := [.ref 6]) rfl rfl ?_
  refine cd_q3_0 ?_
  refine (if_pos (by decide)).trans ?_
  refine (if_neg (cd_g3 rfl)).trans ?_
  refine (if_pos rfl).trans ?_
  refine cd_gom (M' := ((cd_KL L).take 8, cd_V1 xs, (fun _ _ => 0), cd_W3)) (by
    rw [cd_newz (t := 21) (m := 256) (n := 7) rfl ((cd_VZ1 xs).mono (by decide) _ (Nat.le_refl _)) rfl (cd_WZ2.mono (by decide) _ (Nat.le_refl _))]
    try rfl) ?_
  show cd_go 3 6 [.ref 6] [] ((cd_KL L).take 8, cd_V1 xs, (fun _ _ => 0), cd_W3) = _
  refine cd_q3_6 ?_
  refine (if_neg (cd_g3 rfl)).trans ?_
  refine (if_pos rfl).trans ?_
  refine cd_gom (M' := ((cd_KL L).take 9, cd_V1 xs, (fun _ _ => 0), cd_W4)) (by
    rw [cd_newz (t := 20) (m := 256) (n := 8) rfl ((cd_VZ1 xs).mono (by decide) _ (Nat.le_refl _)) rfl (cd_WZ3.mono (by decide) _ (Nat.le_refl _))]
    try rfl) ?_
  show cd_go 3 10 [.ref 6] [] ((cd_KL L).take 9, cd_V1 xs, (fun _ _ => 0), cd_W4) = _
  refine cd_q3_10 ?_
  refine (if_neg (cd_g3 rfl)).trans ?_
  refine (if_pos rfl).trans ?_
  refine cd_gom (M' := ((cd_KL L).take 10, cd_V1 xs, (fun _ _ => 0), cd_W5)) (by
    rw [cd_newz (t := 20) (m := 3072) (n := 9) rfl ((cd_VZ1 xs).mono (by decide) _ (Nat.le_refl _)) rfl (cd_WZ4.mono (by decide) _ (Nat.le_refl _))]
    try rfl) ?_
  show cd_go 3 14 [.ref 6] [] ((cd_KL L).take 10, cd_V1 xs, (fun _ _ => 0), cd_W5) = _
  refine cd_q3_14 ?_
  refine (if_neg (cd_g3 rfl)).trans ?_
  refine (if_pos rfl).trans ?_
  refine cd_gom (M' := ((cd_KL L).take 11, cd_V1 xs, (fun _ _ => 0), cd_W6)) (by
    rw [cd_newz (t := 20) (m := 3072) (n := 10) rfl ((cd_VZ1 xs).mono (by decide) _ (Nat.le_refl _)) rfl (cd_WZ5.mono (by decide) _ (Nat.le_refl _))]
    try rfl) ?_
  show cd_go 3 18 [.ref 6] [] ((cd_KL L).take 11, cd_V1 xs, (fun _ _ => 0), cd_W6) = _
  refine cd_q3_18 ?_
  refine (if_neg (cd_g3 rfl)).trans ?_
  refine (if_pos rfl).trans ?_
  refine cd_gom (M' := ((cd_KL L).take 12, cd_V1 xs, (fun _ _ => 0), cd_W7)) (by
    rw [cd_newz (t := 20) (m := 3072) (n := 11) rfl ((cd_VZ1 xs).mono (by decide) _ (Nat.le_refl _)) rfl (cd_WZ6.mono (by decide) _ (Nat.le_refl _))]
    try rfl) ?_
  show cd_go 3 22 [.ref 6] [] ((cd_KL L).take 12, cd_V1 xs, (fun _ _ => 0), cd_W7) = _
  refine cd_q3_22 ?_
  refine (if_neg (cd_g3 rfl)).trans ?_
  refine (if_pos rfl).trans ?_
  refine cd_gom (M' := ((cd_KL L).take 13, cd_V1 xs, (fun _ _ => 0), cd_W8)) (by
    rw [cd_newz (t := 20) (m := 256) (n := 12) rfl ((cd_VZ1 xs).mono (by decide) _ (Nat.le_refl _)) rfl (cd_WZ7.mono (by decide) _ (Nat.le_refl _))]
    try rfl) ?_
  show cd_go 3 26 [.ref 6] [] ((cd_KL L).take 13, cd_V1 xs, (fun _ _ => 0), cd_W8) = _
  refine cd_q3_26 ?_
  refine (if_neg (cd_g3 rfl)).trans ?_
  refine (if_pos rfl).trans ?_
  refine cd_gom (M' := ((cd_KL L).take 14, cd_V1 xs, (fun _ _ => 0), cd_W9)) (by
    rw [cd_newz (t := 20) (m := 256) (n := 13) rfl ((cd_VZ1 xs).mono (by decide) _ (Nat.le_refl _)) rfl (cd_WZ8.mono (by decide) _ (Nat.le_refl _))]
    try rfl) ?_
  show cd_go 3 30 [.ref 6] [] ((cd_KL L).take 14, cd_V1 xs, (fun _ _ => 0), cd_W9) = _
  refine cd_q3_30 ?_
  refine (if_pos (Nat.le_of_ble_eq_true rfl)).trans ?_
  refine (if_pos rfl).trans ?_
  refine cd_cvb (M := _) (M' := ((cd_KL L).take 15, cd_V1 xs, (fun _ _ => 0), cd_W9)) (by
    rw [cd_newz (t := 1) (m := 3) (n := 14) rfl ((cd_VZ1 xs).mono (by decide) _ (Nat.le_refl _)) rfl (cd_WZ9.mono (by decide) _ (Nat.le_refl _))]
    try rfl) (cd_mk2) ?_
  refine cd_gom (M' := ((cd_KL L).take 18, cd_V1 xs, (fun _ _ => 0), cd_W12)) (by
    try rfl) ?_
  show cd_go 3 34 [.ref 6] [.ref 14, .ref 6] ((cd_KL L).take 18, cd_V1 xs, (fun _ _ => 0), cd_W12) = _
  refine cd_q3_34 ?_
  refine (if_pos rfl).trans ?_
  refine cd_gom (M' := ((cd_KL L).take 18, cd_V1 xs, (fun _ _ => 0), cd_W13)) (by
    try rfl) ?_
  show cd_go 3 35 [.ref 6] [] ((cd_KL L).take 18, cd_V1 xs, (fun _ _ => 0), cd_W13) = _
  refine cd_q3_35 ?_
  refine (if_pos rfl).trans ?_
  refine cd_cvb (M' := ((cd_KL L).take 18, cd_V1 xs, (fun _ _ => 0), cd_W13)) (M2 := ((cd_KL L).take 18, cd_V2 xs, (fun _ _ => 0), cd_W13)) (by
    try rfl) (cd_fill2 (n := 256) rfl rfl (by decide)) ?_
  refine cd_gom (M' := ((cd_KL L).take 18, cd_V2 xs, (fun _ _ => 0), cd_W13)) (by
    try rfl) ?_
  show cd_go 3 39 [.ref 6] [] ((cd_KL L).take 18, cd_V2 xs, (fun _ _ => 0), cd_W13) = _
  refine cd_q3_39 ?_
  rfl
def cd_W14 : Nat → Nat → Nat := cd_up cd_W13 5 0 6
theorem cd_WZ14 : cd_Z 18 cd_W14 0 := (cd_WZ13.mono (by decide)).up (by decide)
def cd_W15 : Nat → Nat → Nat := cd_up cd_W14 5 1 18
theorem cd_WZ15 : cd_Z 19 cd_W15 0 := (cd_WZ14.mono (by decide)).up (by decide)
def cd_W16 : Nat → Nat → Nat := cd_up cd_W15 5 2 19
theorem cd_WZ16 : cd_Z 20 cd_W16 0 := (cd_WZ15.mono (by decide)).up (by decide)
def cd_W17 : Nat → Nat → Nat := cd_up cd_W16 5 3 20
theorem cd_WZ17 : cd_Z 21 cd_W17 0 := (cd_WZ16.mono (by decide)).up (by decide)
def cd_V3 (xs : Nat → Int32) : Nat → Nat → Int32 := cd_up (cd_V2 xs) 5 6 (-1)
theorem cd_VZ3 (xs : Nat → Int32) : cd_Z 21 (cd_V3 xs) 0 := ((cd_VZ2 xs).mono (by decide)).up (by decide)
set_option maxRecDepth 100000 in
set_option maxHeartbeats 4000000 in
theorem cd_mk4 {L : Nat} {xs : Nat → Int32} : cd_c 4 [.ref 5] ((cd_KL L).take 6, cd_V1 xs, (fun _ _ => 0), cd_W2) = some (none, ((cd_KL L).take 21, cd_V3 xs, (fun _ _ => 0), cd_W17)) := by
  refine cd_c_of (l := [.ref 5]) rfl rfl ?_
  refine cd_q4_0 ?_
  refine (if_pos (by decide)).trans ?_
  refine (if_pos (Nat.le_of_ble_eq_true rfl)).trans ?_
  refine (if_pos rfl).trans ?_
  refine cd_cvb (M := _) (M' := ((cd_KL L).take 7, cd_V1 xs, (fun _ _ => 0), cd_W2)) (by
    rw [cd_newz (t := 0) (m := 8) (n := 6) rfl ((cd_VZ1 xs).mono (by decide) _ (Nat.le_refl _)) rfl (cd_WZ2.mono (by decide) _ (Nat.le_refl _))]
    try rfl) (cd_mk3) ?_
  refine cd_gom (M' := ((cd_KL L).take 18, cd_V2 xs, (fun _ _ => 0), cd_W13)) (by
    try rfl) ?_
  show cd_go 4 6 [.ref 5] [.ref 6, .ref 5] ((cd_KL L).take 18, cd_V2 xs, (fun _ _ => 0), cd_W13) = _
  refine cd_q4_6 ?_
  refine (if_pos rfl).trans ?_
  refine cd_gom (M' := ((cd_KL L).take 18, cd_V2 xs, (fun _ _ => 0), cd_W14)) (by
    try rfl) ?_
  show cd_go 4 7 [.ref 5] [] ((cd_KL L).take 18, cd_V2 xs, (fun _ _ => 0), cd_W14) = _
  refine cd_q4_7 ?_
  refine (if_neg (cd_g3 rfl)).trans ?_
  refine (if_pos rfl).trans ?_
  refine cd_gom (M' := ((cd_KL L).take 19, cd_V2 xs, (fun _ _ => 0), cd_W15)) (by
    rw [cd_newz (t := 20) (m := 8) (n := 18) rfl ((cd_VZ2 xs).mono (by decide) _ (Nat.le_refl _)) rfl (cd_WZ14.mono (by decide) _ (Nat.le_refl _))]
    try rfl) ?_
  show cd_go 4 11 [.ref 5] [] ((cd_KL L).take 19, cd_V2 xs, (fun _ _ => 0), cd_W15) = _
  refine cd_q4_11 ?_
  refine (if_neg (cd_g3 rfl)).trans ?_
  refine (if_pos rfl).trans ?_
  refine cd_gom (M' := ((cd_KL L).take 20, cd_V2 xs, (fun _ _ => 0), cd_W16)) (by
    rw [cd_newz (t := 20) (m := 8) (n := 19) rfl ((cd_VZ2 xs).mono (by decide) _ (Nat.le_refl _)) rfl (cd_WZ15.mono (by decide) _ (Nat.le_refl _))]
    try rfl) ?_
  show cd_go 4 15 [.ref 5] [] ((cd_KL L).take 20, cd_V2 xs, (fun _ _ => 0), cd_W16) = _
  refine cd_q4_15 ?_
  refine (if_neg (cd_g3 rfl)).trans ?_
  refine (if_pos rfl).trans ?_
  refine cd_gom (M' := ((cd_KL L).take 21, cd_V2 xs, (fun _ _ => 0), cd_W17)) (by
    rw [cd_newz (t := 20) (m := 8) (n := 20) rfl ((cd_VZ2 xs).mono (by decide) _ (Nat.le_refl _)) rfl (cd_WZ16.mono (by decide) _ (Nat.le_refl _))]
    try rfl) ?_
  show cd_go 4 19 [.ref 5] [] ((cd_KL L).take 21, cd_V2 xs, (fun _ _ => 0), cd_W17) = _
  refine cd_q4_19 ?_
  refine (if_pos rfl).trans ?_
  refine cd_gom (M' := ((cd_KL L).take 21, cd_V2 xs, (fun _ _ => 0), cd_W17)) (by
    rw [cd_wIz (by rfl)]
    try rfl) ?_
  show cd_go 4 22 [.ref 5] [] ((cd_KL L).take 21, cd_V2 xs, (fun _ _ => 0), cd_W17) = _
  refine cd_q4_22 ?_
  refine (if_pos rfl).trans ?_
  refine cd_gom (M' := ((cd_KL L).take 21, cd_V2 xs, (fun _ _ => 0), cd_W17)) (by
    rw [cd_wIz (by rfl)]
    try rfl) ?_
  show cd_go 4 25 [.ref 5] [] ((cd_KL L).take 21, cd_V2 xs, (fun _ _ => 0), cd_W17) = _
  refine cd_q4_25 ?_
  refine (if_pos rfl).trans ?_
  refine cd_gom (M' := ((cd_KL L).take 21, cd_V3 xs, (fun _ _ => 0), cd_W17)) (by
    try rfl) ?_
  show cd_go 4 28 [.ref 5] [] ((cd_KL L).take 21, cd_V3 xs, (fun _ _ => 0), cd_W17) = _
  refine cd_q4_28 ?_
  rfl
def cd_W18 : Nat → Nat → Nat := cd_up cd_W17 2 1 5
theorem cd_WZ18 : cd_Z 21 cd_W18 0 := (cd_WZ17.mono (by decide)).up (by decide)
def cd_W19 : Nat → Nat → Nat := cd_up cd_W18 22 0 23
theorem cd_WZ19 : cd_Z 24 cd_W19 0 := (cd_WZ18.mono (by decide)).up (by decide)
def cd_W20 : Nat → Nat → Nat := cd_up cd_W19 22 3 24
theorem cd_WZ20 : cd_Z 25 cd_W20 0 := (cd_WZ19.mono (by decide)).up (by decide)
def cd_W21 : Nat → Nat → Nat := cd_up cd_W20 22 4 25
theorem cd_WZ21 : cd_Z 26 cd_W21 0 := (cd_WZ20.mono (by decide)).up (by decide)
set_option maxRecDepth 100000 in
set_option maxHeartbeats 4000000 in
theorem cd_mk5 {L : Nat} {xs : Nat → Int32} : cd_c 5 [.ref 22] ((cd_KL L).take 23, cd_V3 xs, (fun _ _ => 0), cd_W18) = some (none, ((cd_KL L).take 26, cd_V3 xs, (fun _ _ => 0), cd_W21)) := by
  refine cd_c_of (l := [.ref 22]) rfl rfl ?_
  refine cd_q5_0 ?_
  refine (if_pos (by decide)).trans ?_
  refine (if_neg (cd_g3 rfl)).trans ?_
  refine (if_pos rfl).trans ?_
  refine cd_gom (M' := ((cd_KL L).take 24, cd_V3 xs, (fun _ _ => 0), cd_W19)) (by
    rw [cd_newz (t := 20) (m := 8) (n := 23) rfl ((cd_VZ3 xs).mono (by decide) _ (Nat.le_refl _)) rfl (cd_WZ18.mono (by decide) _ (Nat.le_refl _))]
    try rfl) ?_
  show cd_go 5 6 [.ref 22] [] ((cd_KL L).take 24, cd_V3 xs, (fun _ _ => 0), cd_W19) = _
  refine cd_q5_6 ?_
  refine (if_pos rfl).trans ?_
  refine cd_gom (M' := ((cd_KL L).take 24, cd_V3 xs, (fun _ _ => 0), cd_W19)) (by
    rw [cd_wIz (by rfl)]
    try rfl) ?_
  show cd_go 5 9 [.ref 22] [] ((cd_KL L).take 24, cd_V3 xs, (fun _ _ => 0), cd_W19) = _
  refine cd_q5_9 ?_
  refine (if_pos rfl).trans ?_
  refine cd_gom (M' := ((cd_KL L).take 24, cd_V3 xs, (fun _ _ => 0), cd_W19)) (by
    rw [cd_wIz (by rfl)]
    try rfl) ?_
  show cd_go 5 12 [.ref 22] [] ((cd_KL L).take 24, cd_V3 xs, (fun _ _ => 0), cd_W19) = _
  refine cd_q5_12 ?_
  refine (if_neg (cd_g3 rfl)).trans ?_
  refine (if_pos rfl).trans ?_
  refine cd_gom (M' := ((cd_KL L).take 25, cd_V3 xs, (fun _ _ => 0), cd_W20)) (by
    rw [cd_newz (t := 20) (m := 12) (n := 24) rfl ((cd_VZ3 xs).mono (by decide) _ (Nat.le_refl _)) rfl (cd_WZ19.mono (by decide) _ (Nat.le_refl _))]
    try rfl) ?_
  show cd_go 5 16 [.ref 22] [] ((cd_KL L).take 25, cd_V3 xs, (fun _ _ => 0), cd_W20) = _
  refine cd_q5_16 ?_
  refine (if_neg (cd_g3 rfl)).trans ?_
  refine (if_pos rfl).trans ?_
  refine cd_gom (M' := ((cd_KL L).take 26, cd_V3 xs, (fun _ _ => 0), cd_W21)) (by
    rw [cd_newz (t := 20) (m := 12) (n := 25) rfl ((cd_VZ3 xs).mono (by decide) _ (Nat.le_refl _)) rfl (cd_WZ20.mono (by decide) _ (Nat.le_refl _))]
    try rfl) ?_
  show cd_go 5 20 [.ref 22] [] ((cd_KL L).take 26, cd_V3 xs, (fun _ _ => 0), cd_W21) = _
  refine cd_q5_20 ?_
  rfl
def cd_W22 : Nat → Nat → Nat := cd_up cd_W21 21 0 22
theorem cd_WZ22 : cd_Z 26 cd_W22 0 := (cd_WZ21.mono (by decide)).up (by decide)
def cd_W23 : Nat → Nat → Nat := cd_up cd_W22 26 0 27
theorem cd_WZ23 : cd_Z 28 cd_W23 0 := (cd_WZ22.mono (by decide)).up (by decide)
def cd_W24 : Nat → Nat → Nat := cd_up cd_W23 26 1 28
theorem cd_WZ24 : cd_Z 29 cd_W24 0 := (cd_WZ23.mono (by decide)).up (by decide)
set_option maxRecDepth 100000 in
set_option maxHeartbeats 4000000 in
theorem cd_mk6 {L : Nat} {xs : Nat → Int32} : cd_c 6 [.ref 26] ((cd_KL L).take 27, cd_V3 xs, (fun _ _ => 0), cd_W22) = some (none, ((cd_KL L).take 29, cd_V3 xs, (fun _ _ => 0), cd_W24)) := by
  refine cd_c_of (l := [.ref 26]) rfl rfl ?_
  refine cd_q6_0 ?_
  refine (if_pos (by decide)).trans ?_
  refine (if_neg (cd_g3 rfl)).trans ?_
  refine (if_pos rfl).trans ?_
  refine cd_gom (M' := ((cd_KL L).take 28, cd_V3 xs, (fun _ _ => 0), cd_W23)) (by
    rw [cd_newz (t := 20) (m := 60) (n := 27) rfl ((cd_VZ3 xs).mono (by decide) _ (Nat.le_refl _)) rfl (cd_WZ22.mono (by decide) _ (Nat.le_refl _))]
    try rfl) ?_
  show cd_go 6 6 [.ref 26] [] ((cd_KL L).take 28, cd_V3 xs, (fun _ _ => 0), cd_W23) = _
  refine cd_q6_6 ?_
  refine (if_neg (cd_g3 rfl)).trans ?_
  refine (if_pos rfl).trans ?_
  refine cd_gom (M' := ((cd_KL L).take 29, cd_V3 xs, (fun _ _ => 0), cd_W24)) (by
    rw [cd_newz (t := 20) (m := 60) (n := 28) rfl ((cd_VZ3 xs).mono (by decide) _ (Nat.le_refl _)) rfl (cd_WZ23.mono (by decide) _ (Nat.le_refl _))]
    try rfl) ?_
  show cd_go 6 10 [.ref 26] [] ((cd_KL L).take 29, cd_V3 xs, (fun _ _ => 0), cd_W24) = _
  refine cd_q6_10 ?_
  refine (if_pos rfl).trans ?_
  refine cd_gom (M' := ((cd_KL L).take 29, cd_V3 xs, (fun _ _ => 0), cd_W24)) (by
    rw [cd_wIz (by rfl)]
    try rfl) ?_
  show cd_go 6 13 [.ref 26] [] ((cd_KL L).take 29, cd_V3 xs, (fun _ _ => 0), cd_W24) = _
  refine cd_q6_13 ?_
  rfl
def cd_W25 : Nat → Nat → Nat := cd_up cd_W24 21 1 26
theorem cd_WZ25 : cd_Z 29 cd_W25 0 := (cd_WZ24.mono (by decide)).up (by decide)
def cd_W26 : Nat → Nat → Nat := cd_up cd_W25 21 2 29
theorem cd_WZ26 : cd_Z 30 cd_W26 0 := (cd_WZ25.mono (by decide)).up (by decide)
def cd_W27 : Nat → Nat → Nat := cd_up cd_W26 21 3 30
theorem cd_WZ27 : cd_Z 31 cd_W27 0 := (cd_WZ26.mono (by decide)).up (by decide)
def cd_W28 : Nat → Nat → Nat := cd_up cd_W27 21 4 31
theorem cd_WZ28 : cd_Z 32 cd_W28 0 := (cd_WZ27.mono (by decide)).up (by decide)
set_option maxRecDepth 100000 in
set_option maxHeartbeats 4000000 in
theorem cd_mk7 {L : Nat} {xs : Nat → Int32} : cd_c 7 [.ref 21] ((cd_KL L).take 22, cd_V3 xs, (fun _ _ => 0), cd_W18) = some (none, ((cd_KL L).take 32, cd_V3 xs, (fun _ _ => 0), cd_W28)) := by
  refine cd_c_of (l := [.ref 21]) rfl rfl ?_
  refine cd_q7_0 ?_
  refine (if_pos (by decide)).trans ?_
  refine (if_pos (Nat.le_of_ble_eq_true rfl)).trans ?_
  refine (if_pos rfl).trans ?_
  refine cd_cvb (M := _) (M' := ((cd_KL L).take 23, cd_V3 xs, (fun _ _ => 0), cd_W18)) (by
    rw [cd_newz (t := 6) (m := 5) (n := 22) rfl ((cd_VZ3 xs).mono (by decide) _ (Nat.le_refl _)) rfl (cd_WZ18.mono (by decide) _ (Nat.le_refl _))]
    try rfl) (cd_mk5) ?_
  refine cd_gom (M' := ((cd_KL L).take 26, cd_V3 xs, (fun _ _ => 0), cd_W21)) (by
    try rfl) ?_
  show cd_go 7 6 [.ref 21] [.ref 22, .ref 21] ((cd_KL L).take 26, cd_V3 xs, (fun _ _ => 0), cd_W21) = _
  refine cd_q7_6 ?_
  refine (if_pos rfl).trans ?_
  refine cd_gom (M' := ((cd_KL L).take 26, cd_V3 xs, (fun _ _ => 0), cd_W22)) (by
    try rfl) ?_
  show cd_go 7 7 [.ref 21] [] ((cd_KL L).take 26, cd_V3 xs, (fun _ _ => 0), cd_W22) = _
  refine cd_q7_7 ?_
  refine (if_pos (Nat.le_of_ble_eq_true rfl)).trans ?_
  refine (if_pos rfl).trans ?_
  refine cd_cvb (M := _) (M' := ((cd_KL L).take 27, cd_V3 xs, (fun _ _ => 0), cd_W22)) (by
    rw [cd_newz (t := 2) (m := 3) (n := 26) rfl ((cd_VZ3 xs).mono (by decide) _ (Nat.le_refl _)) rfl (cd_WZ22.mono (by decide) _ (Nat.le_refl _))]
    try rfl) (cd_mk6) ?_
  refine cd_gom (M' := ((cd_KL L).take 29, cd_V3 xs, (fun _ _ => 0), cd_W24)) (by
    try rfl) ?_
  show cd_go 7 11 [.ref 21] [.ref 26, .ref 21] ((cd_KL L).take 29, cd_V3 xs, (fun _ _ => 0), cd_W24) = _
  refine cd_q7_11 ?_
  refine (if_pos rfl).trans ?_
  refine cd_gom (M' := ((cd_KL L).take 29, cd_V3 xs, (fun _ _ => 0), cd_W25)) (by
    try rfl) ?_
  show cd_go 7 12 [.ref 21] [] ((cd_KL L).take 29, cd_V3 xs, (fun _ _ => 0), cd_W25) = _
  refine cd_q7_12 ?_
  refine (if_neg (cd_g3 rfl)).trans ?_
  refine (if_pos rfl).trans ?_
  refine cd_gom (M' := ((cd_KL L).take 30, cd_V3 xs, (fun _ _ => 0), cd_W26)) (by
    rw [cd_newz (t := 22) (m := 128) (n := 29) rfl ((cd_VZ3 xs).mono (by decide) _ (Nat.le_refl _)) rfl (cd_WZ25.mono (by decide) _ (Nat.le_refl _))]
    try rfl) ?_
  show cd_go 7 16 [.ref 21] [] ((cd_KL L).take 30, cd_V3 xs, (fun _ _ => 0), cd_W26) = _
  refine cd_q7_16 ?_
  refine (if_neg (cd_g3 rfl)).trans ?_
  refine (if_pos rfl).trans ?_
  refine cd_gom (M' := ((cd_KL L).take 31, cd_V3 xs, (fun _ _ => 0), cd_W27)) (by
    rw [cd_newz (t := 20) (m := 7) (n := 30) rfl ((cd_VZ3 xs).mono (by decide) _ (Nat.le_refl _)) rfl (cd_WZ26.mono (by decide) _ (Nat.le_refl _))]
    try rfl) ?_
  show cd_go 7 20 [.ref 21] [] ((cd_KL L).take 31, cd_V3 xs, (fun _ _ => 0), cd_W27) = _
  refine cd_q7_20 ?_
  refine (if_neg (cd_g3 rfl)).trans ?_
  refine (if_pos rfl).trans ?_
  refine cd_gom (M' := ((cd_KL L).take 32, cd_V3 xs, (fun _ _ => 0), cd_W28)) (by
    rw [cd_newz (t := 20) (m := 7) (n := 31) rfl ((cd_VZ3 xs).mono (by decide) _ (Nat.le_refl _)) rfl (cd_WZ27.mono (by decide) _ (Nat.le_refl _))]
    try rfl) ?_
  show cd_go 7 24 [.ref 21] [] ((cd_KL L).take 32, cd_V3 xs, (fun _ _ => 0), cd_W28) = _
  refine cd_q7_24 ?_
  refine (if_pos rfl).trans ?_
  refine cd_gom (M' := ((cd_KL L).take 32, cd_V3 xs, (fun _ _ => 0), cd_W28)) (by
    rw [cd_wIz (by rfl)]
    try rfl) ?_
  show cd_go 7 27 [.ref 21] [] ((cd_KL L).take 32, cd_V3 xs, (fun _ _ => 0), cd_W28) = _
  refine cd_q7_27 ?_
  refine (if_pos rfl).trans ?_
  refine cd_gom (M' := ((cd_KL L).take 32, cd_V3 xs, (fun _ _ => 0), cd_W28)) (by
    rw [cd_wIz (by rfl)]
    try rfl) ?_
  show cd_go 7 30 [.ref 21] [] ((cd_KL L).take 32, cd_V3 xs, (fun _ _ => 0), cd_W28) = _
  refine cd_q7_30 ?_
  refine (if_pos rfl).trans ?_
  refine cd_gom (M' := ((cd_KL L).take 32, cd_V3 xs, (fun _ _ => 0), cd_W28)) (by
    rw [cd_wIz (by rfl)]
    try rfl) ?_
  show cd_go 7 33 [.ref 21] [] ((cd_KL L).take 32, cd_V3 xs, (fun _ _ => 0), cd_W28) = _
  refine cd_q7_33 ?_
  refine (if_pos rfl).trans ?_
  refine cd_gom (M' := ((cd_KL L).take 32, cd_V3 xs, (fun _ _ => 0), cd_W28)) (by
    rw [cd_wIz (by rfl)]
    try rfl) ?_
  show cd_go 7 36 [.ref 21] [] ((cd_KL L).take 32, cd_V3 xs, (fun _ _ => 0), cd_W28) = _
  refine cd_q7_36 ?_
  refine (if_pos rfl).trans ?_
  refine cd_gom (M' := ((cd_KL L).take 32, cd_V3 xs, (fun _ _ => 0), cd_W28)) (by
    rw [cd_wLz (by rfl)]
    try rfl) ?_
  show cd_go 7 39 [.ref 21] [] ((cd_KL L).take 32, cd_V3 xs, (fun _ _ => 0), cd_W28) = _
  refine cd_q7_39 ?_
  refine (if_pos rfl).trans ?_
  refine cd_gom (M' := ((cd_KL L).take 32, cd_V3 xs, (fun _ _ => 0), cd_W28)) (by
    rw [cd_wIz (by rfl)]
    try rfl) ?_
  show cd_go 7 42 [.ref 21] [] ((cd_KL L).take 32, cd_V3 xs, (fun _ _ => 0), cd_W28) = _
  refine cd_q7_42 ?_
  refine (if_pos rfl).trans ?_
  refine cd_gom (M' := ((cd_KL L).take 32, cd_V3 xs, (fun _ _ => 0), cd_W28)) (by
    rw [cd_wIz (by rfl)]
    try rfl) ?_
  show cd_go 7 45 [.ref 21] [] ((cd_KL L).take 32, cd_V3 xs, (fun _ _ => 0), cd_W28) = _
  refine cd_q7_45 ?_
  refine (if_pos rfl).trans ?_
  refine cd_gom (M' := ((cd_KL L).take 32, cd_V3 xs, (fun _ _ => 0), cd_W28)) (by
    rw [cd_wIz (by rfl)]
    try rfl) ?_
  show cd_go 7 48 [.ref 21] [] ((cd_KL L).take 32, cd_V3 xs, (fun _ _ => 0), cd_W28) = _
  refine cd_q7_48 ?_
  rfl
def cd_W29 : Nat → Nat → Nat := cd_up cd_W28 2 2 21
theorem cd_WZ29 : cd_Z 32 cd_W29 0 := (cd_WZ28.mono (by decide)).up (by decide)
def cd_W30 : Nat → Nat → Nat := cd_up cd_W29 32 0 33
theorem cd_WZ30 : cd_Z 34 cd_W30 0 := (cd_WZ29.mono (by decide)).up (by decide)
def cd_W31 : Nat → Nat → Nat := cd_up cd_W30 32 1 34
theorem cd_WZ31 : cd_Z 35 cd_W31 0 := (cd_WZ30.mono (by decide)).up (by decide)
def cd_W32 : Nat → Nat → Nat := cd_up cd_W31 32 2 35
theorem cd_WZ32 : cd_Z 36 cd_W32 0 := (cd_WZ31.mono (by decide)).up (by decide)
def cd_W33 : Nat → Nat → Nat := cd_up cd_W32 32 3 36
theorem cd_WZ33 : cd_Z 37 cd_W33 0 := (cd_WZ32.mono (by decide)).up (by decide)
def cd_W34 : Nat → Nat → Nat := cd_up cd_W33 32 4 37
theorem cd_WZ34 : cd_Z 38 cd_W34 0 := (cd_WZ33.mono (by decide)).up (by decide)
set_option maxRecDepth 100000 in
set_option maxHeartbeats 4000000 in
theorem cd_mk8 {L : Nat} {xs : Nat → Int32} : cd_c 8 [.ref 32] ((cd_KL L).take 33, cd_V3 xs, (fun _ _ => 0), cd_W29) = some (none, ((cd_KL L).take 38, cd_V3 xs, (fun _ _ => 0), cd_W34)) := by
  refine cd_c_of (l := [.ref 32]) rfl rfl ?_
  refine cd_q8_0 ?_
  refine (if_pos (by decide)).trans ?_
  refine (if_neg (cd_g3 rfl)).trans ?_
  refine (if_pos rfl).trans ?_
  refine cd_gom (M' := ((cd_KL L).take 34, cd_V3 xs, (fun _ _ => 0), cd_W30)) (by
    rw [cd_newz (t := 20) (m := 256) (n := 33) rfl ((cd_VZ3 xs).mono (by decide) _ (Nat.le_refl _)) rfl (cd_WZ29.mono (by decide) _ (Nat.le_refl _))]
    try rfl) ?_
  show cd_go 8 6 [.ref 32] [] ((cd_KL L).take 34, cd_V3 xs, (fun _ _ => 0), cd_W30) = _
  refine cd_q8_6 ?_
  refine (if_neg (cd_g3 rfl)).trans ?_
  refine (if_pos rfl).trans ?_
  refine cd_gom (M' := ((cd_KL L).take 35, cd_V3 xs, (fun _ _ => 0), cd_W31)) (by
    rw [cd_newz (t := 20) (m := 256) (n := 34) rfl ((cd_VZ3 xs).mono (by decide) _ (Nat.le_refl _)) rfl (cd_WZ30.mono (by decide) _ (Nat.le_refl _))]
    try rfl) ?_
  show cd_go 8 10 [.ref 32] [] ((cd_KL L).take 35, cd_V3 xs, (fun _ _ => 0), cd_W31) = _
  refine cd_q8_10 ?_
  refine (if_neg (cd_g3 rfl)).trans ?_
  refine (if_pos rfl).trans ?_
  refine cd_gom (M' := ((cd_KL L).take 36, cd_V3 xs, (fun _ _ => 0), cd_W32)) (by
    rw [cd_newz (t := 22) (m := 256) (n := 35) rfl ((cd_VZ3 xs).mono (by decide) _ (Nat.le_refl _)) rfl (cd_WZ31.mono (by decide) _ (Nat.le_refl _))]
    try rfl) ?_
  show cd_go 8 14 [.ref 32] [] ((cd_KL L).take 36, cd_V3 xs, (fun _ _ => 0), cd_W32) = _
  refine cd_q8_14 ?_
  refine (if_neg (cd_g3 rfl)).trans ?_
  refine (if_pos rfl).trans ?_
  refine cd_gom (M' := ((cd_KL L).take 37, cd_V3 xs, (fun _ _ => 0), cd_W33)) (by
    rw [cd_newz (t := 20) (m := 8) (n := 36) rfl ((cd_VZ3 xs).mono (by decide) _ (Nat.le_refl _)) rfl (cd_WZ32.mono (by decide) _ (Nat.le_refl _))]
    try rfl) ?_
  show cd_go 8 18 [.ref 32] [] ((cd_KL L).take 37, cd_V3 xs, (fun _ _ => 0), cd_W33) = _
  refine cd_q8_18 ?_
  refine (if_neg (cd_g3 rfl)).trans ?_
  refine (if_pos rfl).trans ?_
  refine cd_gom (M' := ((cd_KL L).take 38, cd_V3 xs, (fun _ _ => 0), cd_W34)) (by
    rw [cd_newz (t := 20) (m := 8) (n := 37) rfl ((cd_VZ3 xs).mono (by decide) _ (Nat.le_refl _)) rfl (cd_WZ33.mono (by decide) _ (Nat.le_refl _))]
    try rfl) ?_
  show cd_go 8 22 [.ref 32] [] ((cd_KL L).take 38, cd_V3 xs, (fun _ _ => 0), cd_W34) = _
  refine cd_q8_22 ?_
  refine (if_pos rfl).trans ?_
  refine cd_gom (M' := ((cd_KL L).take 38, cd_V3 xs, (fun _ _ => 0), cd_W34)) (by
    rw [cd_wIz (by rfl)]
    try rfl) ?_
  show cd_go 8 25 [.ref 32] [] ((cd_KL L).take 38, cd_V3 xs, (fun _ _ => 0), cd_W34) = _
  refine cd_q8_25 ?_
  refine (if_pos rfl).trans ?_
  refine cd_gom (M' := ((cd_KL L).take 38, cd_V3 xs, (fun _ _ => 0), cd_W34)) (by
    rw [cd_wIz (by rfl)]
    try rfl) ?_
  show cd_go 8 28 [.ref 32] [] ((cd_KL L).take 38, cd_V3 xs, (fun _ _ => 0), cd_W34) = _
  refine cd_q8_28 ?_
  rfl
def cd_W35 : Nat → Nat → Nat := cd_up cd_W34 2 3 32
theorem cd_WZ35 : cd_Z 38 cd_W35 0 := (cd_WZ34.mono (by decide)).up (by decide)
def cd_W36 : Nat → Nat → Nat := cd_up cd_W35 38 0 39
theorem cd_WZ36 : cd_Z 40 cd_W36 0 := (cd_WZ35.mono (by decide)).up (by decide)
def cd_W37 : Nat → Nat → Nat := cd_up cd_W36 38 1 40
theorem cd_WZ37 : cd_Z 41 cd_W37 0 := (cd_WZ36.mono (by decide)).up (by decide)
def cd_W38 : Nat → Nat → Nat := cd_up cd_W37 38 2 41
theorem cd_WZ38 : cd_Z 42 cd_W38 0 := (cd_WZ37.mono (by decide)).up (by decide)
set_option maxRecDepth 100000 in
set_option maxHeartbeats 4000000 in
theorem cd_mk9 {L : Nat} {xs : Nat → Int32} : cd_c 1 [.ref 38] ((cd_KL L).take 39, cd_V3 xs, (fun _ _ => 0), cd_W35) = some (none, ((cd_KL L).take 42, cd_V3 xs, (fun _ _ => 0), cd_W38)) := by
  refine cd_c_of (l := [.ref 38]) rfl rfl ?_
  refine cd_q1_0 ?_
  refine (if_pos (by decide)).trans ?_
  refine (if_neg (cd_g3 rfl)).trans ?_
  refine (if_pos rfl).trans ?_
  refine cd_gom (M' := ((cd_KL L).take 40, cd_V3 xs, (fun _ _ => 0), cd_W36)) (by
    rw [cd_newz (t := 20) (m := 192) (n := 39) rfl ((cd_VZ3 xs).mono (by decide) _ (Nat.le_refl _)) rfl (cd_WZ35.mono (by decide) _ (Nat.le_refl _))]
    try rfl) ?_
  show cd_go 1 6 [.ref 38] [] ((cd_KL L).take 40, cd_V3 xs, (fun _ _ => 0), cd_W36) = _
  refine cd_q1_6 ?_
  refine (if_neg (cd_g3 rfl)).trans ?_
  refine (if_pos rfl).trans ?_
  refine cd_gom (M' := ((cd_KL L).take 41, cd_V3 xs, (fun _ _ => 0), cd_W37)) (by
    rw [cd_newz (t := 20) (m := 192) (n := 40) rfl ((cd_VZ3 xs).mono (by decide) _ (Nat.le_refl _)) rfl (cd_WZ36.mono (by decide) _ (Nat.le_refl _))]
    try rfl) ?_
  show cd_go 1 10 [.ref 38] [] ((cd_KL L).take 41, cd_V3 xs, (fun _ _ => 0), cd_W37) = _
  refine cd_q1_10 ?_
  refine (if_neg (cd_g3 rfl)).trans ?_
  refine (if_pos rfl).trans ?_
  refine cd_gom (M' := ((cd_KL L).take 42, cd_V3 xs, (fun _ _ => 0), cd_W38)) (by
    rw [cd_newz (t := 20) (m := 64) (n := 41) rfl ((cd_VZ3 xs).mono (by decide) _ (Nat.le_refl _)) rfl (cd_WZ37.mono (by decide) _ (Nat.le_refl _))]
    try rfl) ?_
  show cd_go 1 14 [.ref 38] [] ((cd_KL L).take 42, cd_V3 xs, (fun _ _ => 0), cd_W38) = _
  refine cd_q1_14 ?_
  rfl
def cd_W39 : Nat → Nat → Nat := cd_up cd_W38 2 4 38
theorem cd_WZ39 : cd_Z 42 cd_W39 0 := (cd_WZ38.mono (by decide)).up (by decide)
def cd_W40 : Nat → Nat → Nat := cd_up cd_W39 42 0 43
theorem cd_WZ40 : cd_Z 44 cd_W40 0 := (cd_WZ39.mono (by decide)).up (by decide)
def cd_W41 : Nat → Nat → Nat := cd_up cd_W40 42 1 44
theorem cd_WZ41 : cd_Z 45 cd_W41 0 := (cd_WZ40.mono (by decide)).up (by decide)
set_option maxRecDepth 100000 in
set_option maxHeartbeats 4000000 in
theorem cd_mk10 {L : Nat} {xs : Nat → Int32} : cd_c 6 [.ref 42] ((cd_KL L).take 43, cd_V3 xs, (fun _ _ => 0), cd_W39) = some (none, ((cd_KL L).take 45, cd_V3 xs, (fun _ _ => 0), cd_W41)) := by
  refine cd_c_of (l := [.ref 42]) rfl rfl ?_
  refine cd_q6_0 ?_
  refine (if_pos (by decide)).trans ?_
  refine (if_neg (cd_g3 rfl)).trans ?_
  refine (if_pos rfl).trans ?_
  refine cd_gom (M' := ((cd_KL L).take 44, cd_V3 xs, (fun _ _ => 0), cd_W40)) (by
    rw [cd_newz (t := 20) (m := 60) (n := 43) rfl ((cd_VZ3 xs).mono (by decide) _ (Nat.le_refl _)) rfl (cd_WZ39.mono (by decide) _ (Nat.le_refl _))]
    try rfl) ?_
  show cd_go 6 6 [.ref 42] [] ((cd_KL L).take 44, cd_V3 xs, (fun _ _ => 0), cd_W40) = _
  refine cd_q6_6 ?_
  refine (if_neg (cd_g3 rfl)).trans ?_
  refine (if_pos rfl).trans ?_
  refine cd_gom (M' := ((cd_KL L).take 45, cd_V3 xs, (fun _ _ => 0), cd_W41)) (by
    rw [cd_newz (t := 20) (m := 60) (n := 44) rfl ((cd_VZ3 xs).mono (by decide) _ (Nat.le_refl _)) rfl (cd_WZ40.mono (by decide) _ (Nat.le_refl _))]
    try rfl) ?_
  show cd_go 6 10 [.ref 42] [] ((cd_KL L).take 45, cd_V3 xs, (fun _ _ => 0), cd_W41) = _
  refine cd_q6_10 ?_
  refine (if_pos rfl).trans ?_
  refine cd_gom (M' := ((cd_KL L).take 45, cd_V3 xs, (fun _ _ => 0), cd_W41)) (by
    rw [cd_wIz (by rfl)]
    try rfl) ?_
  show cd_go 6 13 [.ref 42] [] ((cd_KL L).take 45, cd_V3 xs, (fun _ _ => 0), cd_W41) = _
  refine cd_q6_13 ?_
  rfl
def cd_W42 : Nat → Nat → Nat := cd_up cd_W41 2 5 42
theorem cd_WZ42 : cd_Z 45 cd_W42 0 := (cd_WZ41.mono (by decide)).up (by decide)
def cd_W43 : Nat → Nat → Nat := cd_up cd_W42 45 0 46
theorem cd_WZ43 : cd_Z 47 cd_W43 0 := (cd_WZ42.mono (by decide)).up (by decide)
def cd_W44 : Nat → Nat → Nat := cd_up cd_W43 45 3 47
theorem cd_WZ44 : cd_Z 48 cd_W44 0 := (cd_WZ43.mono (by decide)).up (by decide)
def cd_W45 : Nat → Nat → Nat := cd_up cd_W44 45 4 48
theorem cd_WZ45 : cd_Z 49 cd_W45 0 := (cd_WZ44.mono (by decide)).up (by decide)
set_option maxRecDepth 100000 in
set_option maxHeartbeats 4000000 in
theorem cd_mk11 {L : Nat} {xs : Nat → Int32} : cd_c 5 [.ref 45] ((cd_KL L).take 46, cd_V3 xs, (fun _ _ => 0), cd_W42) = some (none, ((cd_KL L).take 49, cd_V3 xs, (fun _ _ => 0), cd_W45)) := by
  refine cd_c_of (l := [.ref 45]) rfl rfl ?_
  refine cd_q5_0 ?_
  refine (if_pos (by decide)).trans ?_
  refine (if_neg (cd_g3 rfl)).trans ?_
  refine (if_pos rfl).trans ?_
  refine cd_gom (M' := ((cd_KL L).take 47, cd_V3 xs, (fun _ _ => 0), cd_W43)) (by
    rw [cd_newz (t := 20) (m := 8) (n := 46) rfl ((cd_VZ3 xs).mono (by decide) _ (Nat.le_refl _)) rfl (cd_WZ42.mono (by decide) _ (Nat.le_refl _))]
    try rfl) ?_
  show cd_go 5 6 [.ref 45] [] ((cd_KL L).take 47, cd_V3 xs, (fun _ _ => 0), cd_W43) = _
  refine cd_q5_6 ?_
  refine (if_pos rfl).trans ?_
  refine cd_gom (M' := ((cd_KL L).take 47, cd_V3 xs, (fun _ _ => 0), cd_W43)) (by
    rw [cd_wIz (by rfl)]
    try rfl) ?_
  show cd_go 5 9 [.ref 45] [] ((cd_KL L).take 47, cd_V3 xs, (fun _ _ => 0), cd_W43) = _
  refine cd_q5_9 ?_
  refine (if_pos rfl).trans ?_
  refine cd_gom (M' := ((cd_KL L).take 47, cd_V3 xs, (fun _ _ => 0), cd_W43)) (by
    rw [cd_wIz (by rfl)]
    try rfl) ?_
  show cd_go 5 12 [.ref 45] [] ((cd_KL L).take 47, cd_V3 xs, (fun _ _ => 0), cd_W43) = _
  refine cd_q5_12 ?_
  refine (if_neg (cd_g3 rfl)).trans ?_
  refine (if_pos rfl).trans ?_
  refine cd_gom (M' := ((cd_KL L).take 48, cd_V3 xs, (fun _ _ => 0), cd_W44)) (by
    rw [cd_newz (t := 20) (m := 12) (n := 47) rfl ((cd_VZ3 xs).mono (by decide) _ (Nat.le_refl _)) rfl (cd_WZ43.mono (by decide) _ (Nat.le_refl _))]
    try rfl) ?_
  show cd_go 5 16 [.ref 45] [] ((cd_KL L).take 48, cd_V3 xs, (fun _ _ => 0), cd_W44) = _
  refine cd_q5_16 ?_
  refine (if_neg (cd_g3 rfl)).trans ?_
  refine (if_pos rfl).trans ?_
  refine cd_gom (M' := ((cd_KL L).take 49, cd_V3 xs, (fun _ _ => 0), cd_W45)) (by
    rw [cd_newz (t := 20) (m := 12) (n := 48) rfl ((cd_VZ3 xs).mono (by decide) _ (Nat.le_refl _)) rfl (cd_WZ44.mono (by decide) _ (Nat.le_refl _))]
    try rfl) ?_
  show cd_go 5 20 [.ref 45] [] ((cd_KL L).take 49, cd_V3 xs, (fun _ _ => 0), cd_W45) = _
  refine cd_q5_20 ?_
  rfl
def cd_W46 : Nat → Nat → Nat := cd_up cd_W45 2 6 45
theorem cd_WZ46 : cd_Z 49 cd_W46 0 := (cd_WZ45.mono (by decide)).up (by decide)
def cd_W47 : Nat → Nat → Nat := cd_up cd_W46 50 0 51
theorem cd_WZ47 : cd_Z 52 cd_W47 0 := (cd_WZ46.mono (by decide)).up (by decide)
def cd_W48 : Nat → Nat → Nat := cd_up cd_W47 50 3 52
theorem cd_WZ48 : cd_Z 53 cd_W48 0 := (cd_WZ47.mono (by decide)).up (by decide)
def cd_W49 : Nat → Nat → Nat := cd_up cd_W48 50 4 53
theorem cd_WZ49 : cd_Z 54 cd_W49 0 := (cd_WZ48.mono (by decide)).up (by decide)
set_option maxRecDepth 100000 in
set_option maxHeartbeats 4000000 in
theorem cd_mk12 {L : Nat} {xs : Nat → Int32} : cd_c 5 [.ref 50] ((cd_KL L).take 51, cd_V3 xs, (fun _ _ => 0), cd_W46) = some (none, ((cd_KL L).take 54, cd_V3 xs, (fun _ _ => 0), cd_W49)) := by
  refine cd_c_of (l := [.ref 50]) rfl rfl ?_
  refine cd_q5_0 ?_
  refine (if_pos (by decide)).trans ?_
  refine (if_neg (cd_g3 rfl)).trans ?_
  refine (if_pos rfl).trans ?_
  refine cd_gom (M' := ((cd_KL L).take 52, cd_V3 xs, (fun _ _ => 0), cd_W47)) (by
    rw [cd_newz (t := 20) (m := 8) (n := 51) rfl ((cd_VZ3 xs).mono (by decide) _ (Nat.le_refl _)) rfl (cd_WZ46.mono (by decide) _ (Nat.le_refl _))]
    try rfl) ?_
  show cd_go 5 6 [.ref 50] [] ((cd_KL L).take 52, cd_V3 xs, (fun _ _ => 0), cd_W47) = _
  refine cd_q5_6 ?_
  refine (if_pos rfl).trans ?_
  refine cd_gom (M' := ((cd_KL L).take 52, cd_V3 xs, (fun _ _ => 0), cd_W47)) (by
    rw [cd_wIz (by rfl)]
    try rfl) ?_
  show cd_go 5 9 [.ref 50] [] ((cd_KL L).take 52, cd_V3 xs, (fun _ _ => 0), cd_W47) = _
  refine cd_q5_9 ?_
  refine (if_pos rfl).trans ?_
  refine cd_gom (M' := ((cd_KL L).take 52, cd_V3 xs, (fun _ _ => 0), cd_W47)) (by
    rw [cd_wIz (by rfl)]
    try rfl) ?_
  show cd_go 5 12 [.ref 50] [] ((cd_KL L).take 52, cd_V3 xs, (fun _ _ => 0), cd_W47) = _
  refine cd_q5_12 ?_
  refine (if_neg (cd_g3 rfl)).trans ?_
  refine (if_pos rfl).trans ?_
  refine cd_gom (M' := ((cd_KL L).take 53, cd_V3 xs, (fun _ _ => 0), cd_W48)) (by
    rw [cd_newz (t := 20) (m := 12) (n := 52) rfl ((cd_VZ3 xs).mono (by decide) _ (Nat.le_refl _)) rfl (cd_WZ47.mono (by decide) _ (Nat.le_refl _))]
    try rfl) ?_
  show cd_go 5 16 [.ref 50] [] ((cd_KL L).take 53, cd_V3 xs, (fun _ _ => 0), cd_W48) = _
  refine cd_q5_16 ?_
  refine (if_neg (cd_g3 rfl)).trans ?_
  refine (if_pos rfl).trans ?_
  refine cd_gom (M' := ((cd_KL L).take 54, cd_V3 xs, (fun _ _ => 0), cd_W49)) (by
    rw [cd_newz (t := 20) (m := 12) (n := 53) rfl ((cd_VZ3 xs).mono (by decide) _ (Nat.le_refl _)) rfl (cd_WZ48.mono (by decide) _ (Nat.le_refl _))]
    try rfl) ?_
  show cd_go 5 20 [.ref 50] [] ((cd_KL L).take 54, cd_V3 xs, (fun _ _ => 0), cd_W49) = _
  refine cd_q5_20 ?_
  rfl
def cd_W50 : Nat → Nat → Nat := cd_up cd_W49 49 0 50
theorem cd_WZ50 : cd_Z 54 cd_W50 0 := (cd_WZ49.mono (by decide)).up (by decide)
def cd_W51 : Nat → Nat → Nat := cd_up cd_W50 54 0 55
theorem cd_WZ51 : cd_Z 56 cd_W51 0 := (cd_WZ50.mono (by decide)).up (by decide)
def cd_W52 : Nat → Nat → Nat := cd_up cd_W51 54 3 56
theorem cd_WZ52 : cd_Z 57 cd_W52 0 := (cd_WZ51.mono (by decide)).up (by decide)
def cd_W53 : Nat → Nat → Nat := cd_up cd_W52 54 4 57
theorem cd_WZ53 : cd_Z 58 cd_W53 0 := (cd_WZ52.mono (by decide)).up (by decide)
set_option maxRecDepth 100000 in
set_option maxHeartbeats 4000000 in
theorem cd_mk13 {L : Nat} {xs : Nat → Int32} : cd_c 5 [.ref 54] ((cd_KL L).take 55, cd_V3 xs, (fun _ _ => 0), cd_W50) = some (none, ((cd_KL L).take 58, cd_V3 xs, (fun _ _ => 0), cd_W53)) := by
  refine cd_c_of (l := [.ref 54]) rfl rfl ?_
  refine cd_q5_0 ?_
  refine (if_pos (by decide)).trans ?_
  refine (if_neg (cd_g3 rfl)).trans ?_
  refine (if_pos rfl).trans ?_
  refine cd_gom (M' := ((cd_KL L).take 56, cd_V3 xs, (fun _ _ => 0), cd_W51)) (by
    rw [cd_newz (t := 20) (m := 8) (n := 55) rfl ((cd_VZ3 xs).mono (by decide) _ (Nat.le_refl _)) rfl (cd_WZ50.mono (by decide) _ (Nat.le_refl _))]
    try rfl) ?_
  show cd_go 5 6 [.ref 54] [] ((cd_KL L).take 56, cd_V3 xs, (fun _ _ => 0), cd_W51) = _
  refine cd_q5_6 ?_
  refine (if_pos rfl).trans ?_
  refine cd_gom (M' := ((cd_KL L).take 56, cd_V3 xs, (fun _ _ => 0), cd_W51)) (by
    rw [cd_wIz (by rfl)]
    try rfl) ?_
  show cd_go 5 9 [.ref 54] [] ((cd_KL L).take 56, cd_V3 xs, (fun _ _ => 0), cd_W51) = _
  refine cd_q5_9 ?_
  refine (if_pos rfl).trans ?_
  refine cd_gom (M' := ((cd_KL L).take 56, cd_V3 xs, (fun _ _ => 0), cd_W51)) (by
    rw [cd_wIz (by rfl)]
    try rfl) ?_
  show cd_go 5 12 [.ref 54] [] ((cd_KL L).take 56, cd_V3 xs, (fun _ _ => 0), cd_W51) = _
  refine cd_q5_12 ?_
  refine (if_neg (cd_g3 rfl)).trans ?_
  refine (if_pos rfl).trans ?_
  refine cd_gom (M' := ((cd_KL L).take 57, cd_V3 xs, (fun _ _ => 0), cd_W52)) (by
    rw [cd_newz (t := 20) (m := 12) (n := 56) rfl ((cd_VZ3 xs).mono (by decide) _ (Nat.le_refl _)) rfl (cd_WZ51.mono (by decide) _ (Nat.le_refl _))]
    try rfl) ?_
  show cd_go 5 16 [.ref 54] [] ((cd_KL L).take 57, cd_V3 xs, (fun _ _ => 0), cd_W52) = _
  refine cd_q5_16 ?_
  refine (if_neg (cd_g3 rfl)).trans ?_
  refine (if_pos rfl).trans ?_
  refine cd_gom (M' := ((cd_KL L).take 58, cd_V3 xs, (fun _ _ => 0), cd_W53)) (by
    rw [cd_newz (t := 20) (m := 12) (n := 57) rfl ((cd_VZ3 xs).mono (by decide) _ (Nat.le_refl _)) rfl (cd_WZ52.mono (by decide) _ (Nat.le_refl _))]
    try rfl) ?_
  show cd_go 5 20 [.ref 54] [] ((cd_KL L).take 58, cd_V3 xs, (fun _ _ => 0), cd_W53) = _
  refine cd_q5_20 ?_
  rfl
def cd_W54 : Nat → Nat → Nat := cd_up cd_W53 49 1 54
theorem cd_WZ54 : cd_Z 58 cd_W54 0 := (cd_WZ53.mono (by decide)).up (by decide)
def cd_W55 : Nat → Nat → Nat := cd_up cd_W54 2 7 49
theorem cd_WZ55 : cd_Z 58 cd_W55 0 := (cd_WZ54.mono (by decide)).up (by decide)
def cd_W56 : Nat → Nat → Nat := cd_up cd_W55 2 8 58
theorem cd_WZ56 : cd_Z 59 cd_W56 0 := (cd_WZ55.mono (by decide)).up (by decide)
def cd_W57 : Nat → Nat → Nat := cd_up cd_W56 2 9 59
theorem cd_WZ57 : cd_Z 60 cd_W57 0 := (cd_WZ56.mono (by decide)).up (by decide)
def cd_V4 (xs : Nat → Int32) : Nat → Nat → Int32 := cd_up (cd_V3 xs) 61 1 5
theorem cd_VZ4 (xs : Nat → Int32) : cd_Z 62 (cd_V4 xs) 0 := ((cd_VZ3 xs).mono (by decide)).up (by decide)
def cd_V5 (xs : Nat → Int32) : Nat → Nat → Int32 := cd_up (cd_V4 xs) 61 2 99
theorem cd_VZ5 (xs : Nat → Int32) : cd_Z 62 (cd_V5 xs) 0 := ((cd_VZ4 xs).mono (by decide)).up (by decide)
set_option maxRecDepth 100000 in
set_option maxHeartbeats 4000000 in
theorem cd_mk14 {L : Nat} {xs : Nat → Int32} : cd_c 9 [.ref 61] ((cd_KL L).take 62, cd_V3 xs, (fun _ _ => 0), cd_W57) = some (none, ((cd_KL L).take 62, cd_V5 xs, (fun _ _ => 0), cd_W57)) := by
  refine cd_c_of (l := [.ref 61]) rfl rfl ?_
  refine cd_q9_0 ?_
  refine (if_pos (by decide)).trans ?_
  refine (if_pos rfl).trans ?_
  refine cd_gom (M' := ((cd_KL L).take 62, cd_V3 xs, (fun _ _ => 0), cd_W57)) (by
    rw [cd_wIz (by rfl)]
    try rfl) ?_
  show cd_go 9 5 [.ref 61] [] ((cd_KL L).take 62, cd_V3 xs, (fun _ _ => 0), cd_W57) = _
  refine cd_q9_5 ?_
  refine (if_pos rfl).trans ?_
  refine cd_gom (M' := ((cd_KL L).take 62, cd_V4 xs, (fun _ _ => 0), cd_W57)) (by
    try rfl) ?_
  show cd_go 9 8 [.ref 61] [] ((cd_KL L).take 62, cd_V4 xs, (fun _ _ => 0), cd_W57) = _
  refine cd_q9_8 ?_
  refine (if_pos rfl).trans ?_
  refine cd_gom (M' := ((cd_KL L).take 62, cd_V5 xs, (fun _ _ => 0), cd_W57)) (by
    try rfl) ?_
  show cd_go 9 11 [.ref 61] [] ((cd_KL L).take 62, cd_V5 xs, (fun _ _ => 0), cd_W57) = _
  refine cd_q9_11 ?_
  refine (if_pos rfl).trans ?_
  refine cd_gom (M' := ((cd_KL L).take 62, cd_V5 xs, (fun _ _ => 0), cd_W57)) (by
    rw [cd_wIz (by rfl)]
    try rfl) ?_
  show cd_go 9 14 [.ref 61] [] ((cd_KL L).take 62, cd_V5 xs, (fun _ _ => 0), cd_W57) = _
  refine cd_q9_14 ?_
  refine (if_pos rfl).trans ?_
  refine cd_gom (M' := ((cd_KL L).take 62, cd_V5 xs, (fun _ _ => 0), cd_W57)) (by
    rw [cd_wIz (by rfl)]
    try rfl) ?_
  show cd_go 9 17 [.ref 61] [] ((cd_KL L).take 62, cd_V5 xs, (fun _ _ => 0), cd_W57) = _
  refine cd_q9_17 ?_
  rfl
def cd_W58 : Nat → Nat → Nat := cd_up cd_W57 60 0 61
theorem cd_WZ58 : cd_Z 62 cd_W58 0 := (cd_WZ57.mono (by decide)).up (by decide)
def cd_V6 (xs : Nat → Int32) : Nat → Nat → Int32 := cd_up (cd_V5 xs) 62 1 5
theorem cd_VZ6 (xs : Nat → Int32) : cd_Z 63 (cd_V6 xs) 0 := ((cd_VZ5 xs).mono (by decide)).up (by decide)
def cd_V7 (xs : Nat → Int32) : Nat → Nat → Int32 := cd_up (cd_V6 xs) 62 2 99
theorem cd_VZ7 (xs : Nat → Int32) : cd_Z 63 (cd_V7 xs) 0 := ((cd_VZ6 xs).mono (by decide)).up (by decide)
set_option maxRecDepth 100000 in
set_option maxHeartbeats 4000000 in
theorem cd_mk15 {L : Nat} {xs : Nat → Int32} : cd_c 9 [.ref 62] ((cd_KL L).take 63, cd_V5 xs, (fun _ _ => 0), cd_W58) = some (none, ((cd_KL L).take 63, cd_V7 xs, (fun _ _ => 0), cd_W58)) := by
  refine cd_c_of (l := [.ref 62]) rfl rfl ?_
  refine cd_q9_0 ?_
  refine (if_pos (by decide)).trans ?_
  refine (if_pos rfl).trans ?_
  refine cd_gom (M' := ((cd_KL L).take 63, cd_V5 xs, (fun _ _ => 0), cd_W58)) (by
    rw [cd_wIz (by rfl)]
    try rfl) ?_
  show cd_go 9 5 [.ref 62] [] ((cd_KL L).take 63, cd_V5 xs, (fun _ _ => 0), cd_W58) = _
  refine cd_q9_5 ?_
  refine (if_pos rfl).trans ?_
  refine cd_gom (M' := ((cd_KL L).take 63, cd_V6 xs, (fun _ _ => 0), cd_W58)) (by
    try rfl) ?_
  show cd_go 9 8 [.ref 62] [] ((cd_KL L).take 63, cd_V6 xs, (fun _ _ => 0), cd_W58) = _
  refine cd_q9_8 ?_
  refine (if_pos rfl).trans ?_
  refine cd_gom (M' := ((cd_KL L).take 63, cd_V7 xs, (fun _ _ => 0), cd_W58)) (by
    try rfl) ?_
  show cd_go 9 11 [.ref 62] [] ((cd_KL L).take 63, cd_V7 xs, (fun _ _ => 0), cd_W58) = _
  refine cd_q9_11 ?_
  refine (if_pos rfl).trans ?_
  refine cd_gom (M' := ((cd_KL L).take 63, cd_V7 xs, (fun _ _ => 0), cd_W58)) (by
    rw [cd_wIz (by rfl)]
    try rfl) ?_
  show cd_go 9 14 [.ref 62] [] ((cd_KL L).take 63, cd_V7 xs, (fun _ _ => 0), cd_W58) = _
  refine cd_q9_14 ?_
  refine (if_pos rfl).trans ?_
  refine cd_gom (M' := ((cd_KL L).take 63, cd_V7 xs, (fun _ _ => 0), cd_W58)) (by
    rw [cd_wIz (by rfl)]
    try rfl) ?_
  show cd_go 9 17 [.ref 62] [] ((cd_KL L).take 63, cd_V7 xs, (fun _ _ => 0), cd_W58) = _
  refine cd_q9_17 ?_
  rfl
def cd_W59 : Nat → Nat → Nat := cd_up cd_W58 60 1 62
theorem cd_WZ59 : cd_Z 63 cd_W59 0 := (cd_WZ58.mono (by decide)).up (by decide)
def cd_V8 (xs : Nat → Int32) : Nat → Nat → Int32 := cd_up (cd_V7 xs) 63 1 5
theorem cd_VZ8 (xs : Nat → Int32) : cd_Z 64 (cd_V8 xs) 0 := ((cd_VZ7 xs).mono (by decide)).up (by decide)
def cd_V9 (xs : Nat → Int32) : Nat → Nat → Int32 := cd_up (cd_V8 xs) 63 2 99
theorem cd_VZ9 (xs : Nat → Int32) : cd_Z 64 (cd_V9 xs) 0 := ((cd_VZ8 xs).mono (by decide)).up (by decide)
set_option maxRecDepth 100000 in
set_option maxHeartbeats 4000000 in
theorem cd_mk16 {L : Nat} {xs : Nat → Int32} : cd_c 9 [.ref 63] ((cd_KL L).take 64, cd_V7 xs, (fun _ _ => 0), cd_W59) = some (none, ((cd_KL L).take 64, cd_V9 xs, (fun _ _ => 0), cd_W59)) := by
  refine cd_c_of (l := [.ref 63]) rfl rfl ?_
  refine cd_q9_0 ?_
  refine (if_pos (by decide)).trans ?_
  refine (if_pos rfl).trans ?_
  refine cd_gom (M' := ((cd_KL L).take 64, cd_V7 xs, (fun _ _ => 0), cd_W59)) (by
    rw [cd_wIz (by rfl)]
    try rfl) ?_
  show cd_go 9 5 [.ref 63] [] ((cd_KL L).take 64, cd_V7 xs, (fun _ _ => 0), cd_W59) = _
  refine cd_q9_5 ?_
  refine (if_pos rfl).trans ?_
  refine cd_gom (M' := ((cd_KL L).take 64, cd_V8 xs, (fun _ _ => 0), cd_W59)) (by
    try rfl) ?_
  show cd_go 9 8 [.ref 63] [] ((cd_KL L).take 64, cd_V8 xs, (fun _ _ => 0), cd_W59) = _
  refine cd_q9_8 ?_
  refine (if_pos rfl).trans ?_
  refine cd_gom (M' := ((cd_KL L).take 64, cd_V9 xs, (fun _ _ => 0), cd_W59)) (by
    try rfl) ?_
  show cd_go 9 11 [.ref 63] [] ((cd_KL L).take 64, cd_V9 xs, (fun _ _ => 0), cd_W59) = _
  refine cd_q9_11 ?_
  refine (if_pos rfl).trans ?_
  refine cd_gom (M' := ((cd_KL L).take 64, cd_V9 xs, (fun _ _ => 0), cd_W59)) (by
    rw [cd_wIz (by rfl)]
    try rfl) ?_
  show cd_go 9 14 [.ref 63] [] ((cd_KL L).take 64, cd_V9 xs, (fun _ _ => 0), cd_W59) = _
  refine cd_q9_14 ?_
  refine (if_pos rfl).trans ?_
  refine cd_gom (M' := ((cd_KL L).take 64, cd_V9 xs, (fun _ _ => 0), cd_W59)) (by
    rw [cd_wIz (by rfl)]
    try rfl) ?_
  show cd_go 9 17 [.ref 63] [] ((cd_KL L).take 64, cd_V9 xs, (fun _ _ => 0), cd_W59) = _
  refine cd_q9_17 ?_
  rfl
def cd_W60 : Nat → Nat → Nat := cd_up cd_W59 60 2 63
theorem cd_WZ60 : cd_Z 64 cd_W60 0 := (cd_WZ59.mono (by decide)).up (by decide)
def cd_V10 (xs : Nat → Int32) : Nat → Nat → Int32 := cd_up (cd_V9 xs) 64 1 5
theorem cd_VZ10 (xs : Nat → Int32) : cd_Z 65 (cd_V10 xs) 0 := ((cd_VZ9 xs).mono (by decide)).up (by decide)
def cd_V11 (xs : Nat → Int32) : Nat → Nat → Int32 := cd_up (cd_V10 xs) 64 2 99
theorem cd_VZ11 (xs : Nat → Int32) : cd_Z 65 (cd_V11 xs) 0 := ((cd_VZ10 xs).mono (by decide)).up (by decide)
set_option maxRecDepth 100000 in
set_option maxHeartbeats 4000000 in
theorem cd_mk17 {L : Nat} {xs : Nat → Int32} : cd_c 9 [.ref 64] ((cd_KL L).take 65, cd_V9 xs, (fun _ _ => 0), cd_W60) = some (none, ((cd_KL L).take 65, cd_V11 xs, (fun _ _ => 0), cd_W60)) := by
  refine cd_c_of (l := [.ref 64]) rfl rfl ?_
  refine cd_q9_0 ?_
  refine (if_pos (by decide)).trans ?_
  refine (if_pos rfl).trans ?_
  refine cd_gom (M' := ((cd_KL L).take 65, cd_V9 xs, (fun _ _ => 0), cd_W60)) (by
    rw [cd_wIz (by rfl)]
    try rfl) ?_
  show cd_go 9 5 [.ref 64] [] ((cd_KL L).take 65, cd_V9 xs, (fun _ _ => 0), cd_W60) = _
  refine cd_q9_5 ?_
  refine (if_pos rfl).trans ?_
  refine cd_gom (M' := ((cd_KL L).take 65, cd_V10 xs, (fun _ _ => 0), cd_W60)) (by
    try rfl) ?_
  show cd_go 9 8 [.ref 64] [] ((cd_KL L).take 65, cd_V10 xs, (fun _ _ => 0), cd_W60) = _
  refine cd_q9_8 ?_
  refine (if_pos rfl).trans ?_
  refine cd_gom (M' := ((cd_KL L).take 65, cd_V11 xs, (fun _ _ => 0), cd_W60)) (by
    try rfl) ?_
  show cd_go 9 11 [.ref 64] [] ((cd_KL L).take 65, cd_V11 xs, (fun _ _ => 0), cd_W60) = _
  refine cd_q9_11 ?_
  refine (if_pos rfl).trans ?_
  refine cd_gom (M' := ((cd_KL L).take 65, cd_V11 xs, (fun _ _ => 0), cd_W60)) (by
    rw [cd_wIz (by rfl)]
    try rfl) ?_
  show cd_go 9 14 [.ref 64] [] ((cd_KL L).take 65, cd_V11 xs, (fun _ _ => 0), cd_W60) = _
  refine cd_q9_14 ?_
  refine (if_pos rfl).trans ?_
  refine cd_gom (M' := ((cd_KL L).take 65, cd_V11 xs, (fun _ _ => 0), cd_W60)) (by
    rw [cd_wIz (by rfl)]
    try rfl) ?_
  show cd_go 9 17 [.ref 64] [] ((cd_KL L).take 65, cd_V11 xs, (fun _ _ => 0), cd_W60) = _
  refine cd_q9_17 ?_
  rfl
def cd_W61 : Nat → Nat → Nat := cd_up cd_W60 60 3 64
theorem cd_WZ61 : cd_Z 65 cd_W61 0 := (cd_WZ60.mono (by decide)).up (by decide)
def cd_W62 : Nat → Nat → Nat := cd_up cd_W61 2 10 60
theorem cd_WZ62 : cd_Z 65 cd_W62 0 := (cd_WZ61.mono (by decide)).up (by decide)
def cd_V12 (xs : Nat → Int32) : Nat → Nat → Int32 := cd_up (cd_V11 xs) 65 1 5
theorem cd_VZ12 (xs : Nat → Int32) : cd_Z 66 (cd_V12 xs) 0 := ((cd_VZ11 xs).mono (by decide)).up (by decide)
def cd_V13 (xs : Nat → Int32) : Nat → Nat → Int32 := cd_up (cd_V12 xs) 65 2 99
theorem cd_VZ13 (xs : Nat → Int32) : cd_Z 66 (cd_V13 xs) 0 := ((cd_VZ12 xs).mono (by decide)).up (by decide)
set_option maxRecDepth 100000 in
set_option maxHeartbeats 4000000 in
theorem cd_mk18 {L : Nat} {xs : Nat → Int32} : cd_c 9 [.ref 65] ((cd_KL L).take 66, cd_V11 xs, (fun _ _ => 0), cd_W62) = some (none, ((cd_KL L).take 66, cd_V13 xs, (fun _ _ => 0), cd_W62)) := by
  refine cd_c_of (l := [.ref 65]) rfl rfl ?_
  refine cd_q9_0 ?_
  refine (if_pos (by decide)).trans ?_
  refine (if_pos rfl).trans ?_
  refine cd_gom (M' := ((cd_KL L).take 66, cd_V11 xs, (fun _ _ => 0), cd_W62)) (by
    rw [cd_wIz (by rfl)]
    try rfl) ?_
  show cd_go 9 5 [.ref 65] [] ((cd_KL L).take 66, cd_V11 xs, (fun _ _ => 0), cd_W62) = _
  refine cd_q9_5 ?_
  refine (if_pos rfl).trans ?_
  refine cd_gom (M' := ((cd_KL L).take 66, cd_V12 xs, (fun _ _ => 0), cd_W62)) (by
    try rfl) ?_
  show cd_go 9 8 [.ref 65] [] ((cd_KL L).take 66, cd_V12 xs, (fun _ _ => 0), cd_W62) = _
  refine cd_q9_8 ?_
  refine (if_pos rfl).trans ?_
  refine cd_gom (M' := ((cd_KL L).take 66, cd_V13 xs, (fun _ _ => 0), cd_W62)) (by
    try rfl) ?_
  show cd_go 9 11 [.ref 65] [] ((cd_KL L).take 66, cd_V13 xs, (fun _ _ => 0), cd_W62) = _
  refine cd_q9_11 ?_
  refine (if_pos rfl).trans ?_
  refine cd_gom (M' := ((cd_KL L).take 66, cd_V13 xs, (fun _ _ => 0), cd_W62)) (by
    rw [cd_wIz (by rfl)]
    try rfl) ?_
  show cd_go 9 14 [.ref 65] [] ((cd_KL L).take 66, cd_V13 xs, (fun _ _ => 0), cd_W62) = _
  refine cd_q9_14 ?_
  refine (if_pos rfl).trans ?_
  refine cd_gom (M' := ((cd_KL L).take 66, cd_V13 xs, (fun _ _ => 0), cd_W62)) (by
    rw [cd_wIz (by rfl)]
    try rfl) ?_
  show cd_go 9 17 [.ref 65] [] ((cd_KL L).take 66, cd_V13 xs, (fun _ _ => 0), cd_W62) = _
  refine cd_q9_17 ?_
  rfl
def cd_W63 : Nat → Nat → Nat := cd_up cd_W62 2 11 65
theorem cd_WZ63 : cd_Z 66 cd_W63 0 := (cd_WZ62.mono (by decide)).up (by decide)
def cd_W64 : Nat → Nat → Nat := cd_up cd_W63 66 4 67
theorem cd_WZ64 : cd_Z 68 cd_W64 0 := (cd_WZ63.mono (by decide)).up (by decide)
def cd_W65 : Nat → Nat → Nat := cd_up cd_W64 66 5 68
theorem cd_WZ65 : cd_Z 69 cd_W65 0 := (cd_WZ64.mono (by decide)).up (by decide)
def cd_W66 : Nat → Nat → Nat := cd_up cd_W65 66 6 69
theorem cd_WZ66 : cd_Z 70 cd_W66 0 := (cd_WZ65.mono (by decide)).up (by decide)
def cd_W67 : Nat → Nat → Nat := cd_up cd_W66 66 7 70
theorem cd_WZ67 : cd_Z 71 cd_W67 0 := (cd_WZ66.mono (by decide)).up (by decide)
def cd_W68 : Nat → Nat → Nat := cd_up cd_W67 66 8 71
theorem cd_WZ68 : cd_Z 72 cd_W68 0 := (cd_WZ67.mono (by decide)).up (by decide)
def cd_W69 : Nat → Nat → Nat := cd_up cd_W68 66 9 72
theorem cd_WZ69 : cd_Z 73 cd_W69 0 := (cd_WZ68.mono (by decide)).up (by decide)
def cd_W70 : Nat → Nat → Nat := cd_up cd_W69 66 10 73
theorem cd_WZ70 : cd_Z 74 cd_W70 0 := (cd_WZ69.mono (by decide)).up (by decide)
def cd_W71 : Nat → Nat → Nat := cd_up cd_W70 66 11 74
theorem cd_WZ71 : cd_Z 75 cd_W71 0 := (cd_WZ70.mono (by decide)).up (by decide)
def cd_W72 : Nat → Nat → Nat := cd_up cd_W71 66 12 75
theorem cd_WZ72 : cd_Z 76 cd_W72 0 := (cd_WZ71.mono (by decide)).up (by decide)
def cd_W73 : Nat → Nat → Nat := cd_up cd_W72 66 13 76
theorem cd_WZ73 : cd_Z 77 cd_W73 0 := (cd_WZ72.mono (by decide)).up (by decide)
def cd_W74 : Nat → Nat → Nat := cd_up cd_W73 66 14 77
theorem cd_WZ74 : cd_Z 78 cd_W74 0 := (cd_WZ73.mono (by decide)).up (by decide)
def cd_W75 : Nat → Nat → Nat := cd_up cd_W74 66 15 78
theorem cd_WZ75 : cd_Z 79 cd_W75 0 := (cd_WZ74.mono (by decide)).up (by decide)
def cd_V14 (xs : Nat → Int32) : Nat → Nat → Int32 := cd_up (cd_V13 xs) 66 16 60
theorem cd_VZ14 (xs : Nat → Int32) : cd_Z 79 (cd_V14 xs) 0 := ((cd_VZ13 xs).mono (by decide)).up (by decide)
def cd_V15 (xs : Nat → Int32) : Nat → Nat → Int32 := cd_up (cd_V14 xs) 66 17 10
theorem cd_VZ15 (xs : Nat → Int32) : cd_Z 79 (cd_V15 xs) 0 := ((cd_VZ14 xs).mono (by decide)).up (by decide)
def cd_W76 : Nat → Nat → Nat := cd_up cd_W75 79 0 80
theorem cd_WZ76 : cd_Z 81 cd_W76 0 := (cd_WZ75.mono (by decide)).up (by decide)
def cd_W77 : Nat → Nat → Nat := cd_up cd_W76 79 3 81
theorem cd_WZ77 : cd_Z 82 cd_W77 0 := (cd_WZ76.mono (by decide)).up (by decide)
def cd_W78 : Nat → Nat → Nat := cd_up cd_W77 79 4 82
theorem cd_WZ78 : cd_Z 83 cd_W78 0 := (cd_WZ77.mono (by decide)).up (by decide)
set_option maxRecDepth 100000 in
set_option maxHeartbeats 4000000 in
theorem cd_mk19 {L : Nat} {xs : Nat → Int32} : cd_c 5 [.ref 79] ((cd_KL L).take 80, cd_V15 xs, (fun _ _ => 0), cd_W75) = some (none, ((cd_KL L).take 83, cd_V15 xs, (fun _ _ => 0), cd_W78)) := by
  refine cd_c_of (l := [.ref 79]) rfl rfl ?_
  refine cd_q5_0 ?_
  refine (if_pos (by decide)).trans ?_
  refine (if_neg (cd_g3 rfl)).trans ?_
  refine (if_pos rfl).trans ?_
  refine cd_gom (M' := ((cd_KL L).take 81, cd_V15 xs, (fun _ _ => 0), cd_W76)) (by
    rw [cd_newz (t := 20) (m := 8) (n := 80) rfl ((cd_VZ15 xs).mono (by decide) _ (Nat.le_refl _)) rfl (cd_WZ75.mono (by decide) _ (Nat.le_refl _))]
    try rfl) ?_
  show cd_go 5 6 [.ref 79] [] ((cd_KL L).take 81, cd_V15 xs, (fun _ _ => 0), cd_W76) = _
  refine cd_q5_6 ?_
  refine (if_pos rfl).trans ?_
  refine cd_gom (M' := ((cd_KL L).take 81, cd_V15 xs, (fun _ _ => 0), cd_W76)) (by
    rw [cd_wIz (by rfl)]
    try rfl) ?_
  show cd_go 5 9 [.ref 79] [] ((cd_KL L).take 81, cd_V15 xs, (fun _ _ => 0), cd_W76) = _
  refine cd_q5_9 ?_
  refine (if_pos rfl).trans ?_
  refine cd_gom (M' := ((cd_KL L).take 81, cd_V15 xs, (fun _ _ => 0), cd_W76)) (by
    rw [cd_wIz (by rfl)]
    try rfl) ?_
  show cd_go 5 12 [.ref 79] [] ((cd_KL L).take 81, cd_V15 xs, (fun _ _ => 0), cd_W76) = _
  refine cd_q5_12 ?_
  refine (if_neg (cd_g3 rfl)).trans ?_
  refine (if_pos rfl).trans ?_
  refine cd_gom (M' := ((cd_KL L).take 82, cd_V15 xs, (fun _ _ => 0), cd_W77)) (by
    rw [cd_newz (t := 20) (m := 12) (n := 81) rfl ((cd_VZ15 xs).mono (by decide) _ (Nat.le_refl _)) rfl (cd_WZ76.mono (by decide) _ (Nat.le_refl _))]
    try rfl) ?_
  show cd_go 5 16 [.ref 79] [] ((cd_KL L).take 82, cd_V15 xs, (fun _ _ => 0), cd_W77) = _
  refine cd_q5_16 ?_
  refine (if_neg (cd_g3 rfl)).trans ?_
  refine (if_pos rfl).trans ?_
  refine cd_gom (M' := ((cd_KL L).take 83, cd_V15 xs, (fun _ _ => 0), cd_W78)) (by
    rw [cd_newz (t := 20) (m := 12) (n := 82) rfl ((cd_VZ15 xs).mono (by decide) _ (Nat.le_refl _)) rfl (cd_WZ77.mono (by decide) _ (Nat.le_refl _))]
    try rfl) ?_
  show cd_go 5 20 [.ref 79] [] ((cd_KL L).take 83, cd_V15 xs, (fun _ _ => 0), cd_W78) = _
  refine cd_q5_20 ?_
  rfl
def cd_W79 : Nat → Nat → Nat := cd_up cd_W78 66 19 79
theorem cd_WZ79 : cd_Z 83 cd_W79 0 := (cd_WZ78.mono (by decide)).up (by decide)
set_option maxRecDepth 100000 in
set_option maxHeartbeats 4000000 in
theorem cd_mk20 {L : Nat} {xs : Nat → Int32} : cd_c 10 [.ref 66] ((cd_KL L).take 67, cd_V13 xs, (fun _ _ => 0), cd_W63) = some (none, ((cd_KL L).take 83, cd_V15 xs, (fun _ _ => 0), cd_W79)) := by
  refine cd_c_of (l := [.ref 66]) rfl rfl ?_
  refine cd_q10_0 ?_
  refine (if_pos (by decide)).trans ?_
  refine (if_pos rfl).trans ?_
  refine cd_gom (M' := ((cd_KL L).take 67, cd_V13 xs, (fun _ _ => 0), cd_W63)) (by
    rw [cd_wIz (by rfl)]
    try rfl) ?_
  show cd_go 10 5 [.ref 66] [] ((cd_KL L).take 67, cd_V13 xs, (fun _ _ => 0), cd_W63) = _
  refine cd_q10_5 ?_
  refine (if_pos rfl).trans ?_
  refine cd_gom (M' := ((cd_KL L).take 67, cd_V13 xs, (fun _ _ => 0), cd_W63)) (by
    rw [cd_wIz (by rfl)]
    try rfl) ?_
  show cd_go 10 8 [.ref 66] [] ((cd_KL L).take 67, cd_V13 xs, (fun _ _ => 0), cd_W63) = _
  refine cd_q10_8 ?_
  refine (if_pos rfl).trans ?_
  refine cd_gom (M' := ((cd_KL L).take 67, cd_V13 xs, (fun _ _ => 0), cd_W63)) (by
    rw [cd_wIz (by rfl)]
    try rfl) ?_
  show cd_go 10 11 [.ref 66] [] ((cd_KL L).take 67, cd_V13 xs, (fun _ _ => 0), cd_W63) = _
  refine cd_q10_11 ?_
  refine (if_pos rfl).trans ?_
  refine cd_gom (M' := ((cd_KL L).take 67, cd_V13 xs, (fun _ _ => 0), cd_W63)) (by
    rw [cd_wIz (by rfl)]
    try rfl) ?_
  show cd_go 10 14 [.ref 66] [] ((cd_KL L).take 67, cd_V13 xs, (fun _ _ => 0), cd_W63) = _
  refine cd_q10_14 ?_
  refine (if_neg (cd_g3 rfl)).trans ?_
  refine (if_pos rfl).trans ?_
  refine cd_gom (M' := ((cd_KL L).take 68, cd_V13 xs, (fun _ _ => 0), cd_W64)) (by
    rw [cd_newz (t := 20) (m := 8) (n := 67) rfl ((cd_VZ13 xs).mono (by decide) _ (Nat.le_refl _)) rfl (cd_WZ63.mono (by decide) _ (Nat.le_refl _))]
    try rfl) ?_
  show cd_go 10 18 [.ref 66] [] ((cd_KL L).take 68, cd_V13 xs, (fun _ _ => 0), cd_W64) = _
  refine cd_q10_18 ?_
  refine (if_neg (cd_g3 rfl)).trans ?_
  refine (if_pos rfl).trans ?_
  refine cd_gom (M' := ((cd_KL L).take 69, cd_V13 xs, (fun _ _ => 0), cd_W65)) (by
    rw [cd_newz (t := 20) (m := 8) (n := 68) rfl ((cd_VZ13 xs).mono (by decide) _ (Nat.le_refl _)) rfl (cd_WZ64.mono (by decide) _ (Nat.le_refl _))]
    try rfl) ?_
  show cd_go 10 22 [.ref 66] [] ((cd_KL L).take 69, cd_V13 xs, (fun _ _ => 0), cd_W65) = _
  refine cd_q10_22 ?_
  refine (if_neg (cd_g3 rfl)).trans ?_
  refine (if_pos rfl).trans ?_
  refine cd_gom (M' := ((cd_KL L).take 70, cd_V13 xs, (fun _ _ => 0), cd_W66)) (by
    rw [cd_newz (t := 20) (m := 8) (n := 69) rfl ((cd_VZ13 xs).mono (by decide) _ (Nat.le_refl _)) rfl (cd_WZ65.mono (by decide) _ (Nat.le_refl _))]
    try rfl) ?_
  show cd_go 10 26 [.ref 66] [] ((cd_KL L).take 70, cd_V13 xs, (fun _ _ => 0), cd_W66) = _
  refine cd_q10_26 ?_
  refine (if_neg (cd_g3 rfl)).trans ?_
  refine (if_pos rfl).trans ?_
  refine cd_gom (M' := ((cd_KL L).take 71, cd_V13 xs, (fun _ _ => 0), cd_W67)) (by
    rw [cd_newz (t := 20) (m := 8) (n := 70) rfl ((cd_VZ13 xs).mono (by decide) _ (Nat.le_refl _)) rfl (cd_WZ66.mono (by decide) _ (Nat.le_refl _))]
    try rfl) ?_
  show cd_go 10 30 [.ref 66] [] ((cd_KL L).take 71, cd_V13 xs, (fun _ _ => 0), cd_W67) = _
  refine cd_q10_30 ?_
  refine (if_neg (cd_g3 rfl)).trans ?_
  refine (if_pos rfl).trans ?_
  refine cd_gom (M' := ((cd_KL L).take 72, cd_V13 xs, (fun _ _ => 0), cd_W68)) (by
    rw [cd_newz (t := 20) (m := 3) (n := 71) rfl ((cd_VZ13 xs).mono (by decide) _ (Nat.le_refl _)) rfl (cd_WZ67.mono (by decide) _ (Nat.le_refl _))]
    try rfl) ?_
  show cd_go 10 34 [.ref 66] [] ((cd_KL L).take 72, cd_V13 xs, (fun _ _ => 0), cd_W68) = _
  refine cd_q10_34 ?_
  refine (if_neg (cd_g3 rfl)).trans ?_
  refine (if_pos rfl).trans ?_
  refine cd_gom (M' := ((cd_KL L).take 73, cd_V13 xs, (fun _ _ => 0), cd_W69)) (by
    rw [cd_newz (t := 20) (m := 3) (n := 72) rfl ((cd_VZ13 xs).mono (by decide) _ (Nat.le_refl _)) rfl (cd_WZ68.mono (by decide) _ (Nat.le_refl _))]
    try rfl) ?_
  show cd_go 10 38 [.ref 66] [] ((cd_KL L).take 73, cd_V13 xs, (fun _ _ => 0), cd_W69) = _
  refine cd_q10_38 ?_
  refine (if_neg (cd_g3 rfl)).trans ?_
  refine (if_pos rfl).trans ?_
  refine cd_gom (M' := ((cd_KL L).take 74, cd_V13 xs, (fun _ _ => 0), cd_W70)) (by
    rw [cd_newz (t := 20) (m := 3) (n := 73) rfl ((cd_VZ13 xs).mono (by decide) _ (Nat.le_refl _)) rfl (cd_WZ69.mono (by decide) _ (Nat.le_refl _))]
    try rfl) ?_
  show cd_go 10 42 [.ref 66] [] ((cd_KL L).take 74, cd_V13 xs, (fun _ _ => 0), cd_W70) = _
  refine cd_q10_42 ?_
  refine (if_neg (cd_g3 rfl)).trans ?_
  refine (if_pos rfl).trans ?_
  refine cd_gom (M' := ((cd_KL L).take 75, cd_V13 xs, (fun _ _ => 0), cd_W71)) (by
    rw [cd_newz (t := 20) (m := 3) (n := 74) rfl ((cd_VZ13 xs).mono (by decide) _ (Nat.le_refl _)) rfl (cd_WZ70.mono (by decide) _ (Nat.le_refl _))]
    try rfl) ?_
  show cd_go 10 46 [.ref 66] [] ((cd_KL L).take 75, cd_V13 xs, (fun _ _ => 0), cd_W71) = _
  refine cd_q10_46 ?_
  refine (if_neg (cd_g3 rfl)).trans ?_
  refine (if_pos rfl).trans ?_
  refine cd_gom (M' := ((cd_KL L).take 76, cd_V13 xs, (fun _ _ => 0), cd_W72)) (by
    rw [cd_newz (t := 20) (m := 3) (n := 75) rfl ((cd_VZ13 xs).mono (by decide) _ (Nat.le_refl _)) rfl (cd_WZ71.mono (by decide) _ (Nat.le_refl _))]
    try rfl) ?_
  show cd_go 10 50 [.ref 66] [] ((cd_KL L).take 76, cd_V13 xs, (fun _ _ => 0), cd_W72) = _
  refine cd_q10_50 ?_
  refine (if_neg (cd_g3 rfl)).trans ?_
  refine (if_pos rfl).trans ?_
  refine cd_gom (M' := ((cd_KL L).take 77, cd_V13 xs, (fun _ _ => 0), cd_W73)) (by
    rw [cd_newz (t := 21) (m := 3) (n := 76) rfl ((cd_VZ13 xs).mono (by decide) _ (Nat.le_refl _)) rfl (cd_WZ72.mono (by decide) _ (Nat.le_refl _))]
    try rfl) ?_
  show cd_go 10 54 [.ref 66] [] ((cd_KL L).take 77, cd_V13 xs, (fun _ _ => 0), cd_W73) = _
  refine cd_q10_54 ?_
  refine (if_neg (cd_g3 rfl)).trans ?_
  refine (if_pos rfl).trans ?_
  refine cd_gom (M' := ((cd_KL L).take 78, cd_V13 xs, (fun _ _ => 0), cd_W74)) (by
    rw [cd_newz (t := 20) (m := 12) (n := 77) rfl ((cd_VZ13 xs).mono (by decide) _ (Nat.le_refl _)) rfl (cd_WZ73.mono (by decide) _ (Nat.le_refl _))]
    try rfl) ?_
  show cd_go 10 58 [.ref 66] [] ((cd_KL L).take 78, cd_V13 xs, (fun _ _ => 0), cd_W74) = _
  refine cd_q10_58 ?_
  refine (if_neg (cd_g3 rfl)).trans ?_
  refine (if_pos rfl).trans ?_
  refine cd_gom (M' := ((cd_KL L).take 79, cd_V13 xs, (fun _ _ => 0), cd_W75)) (by
    rw [cd_newz (t := 20) (m := 12) (n := 78) rfl ((cd_VZ13 xs).mono (by decide) _ (Nat.le_refl _)) rfl (cd_WZ74.mono (by decide) _ (Nat.le_refl _))]
    try rfl) ?_
  show cd_go 10 62 [.ref 66] [] ((cd_KL L).take 79, cd_V13 xs, (fun _ _ => 0), cd_W75) = _
  refine cd_q10_62 ?_
  refine (if_pos rfl).trans ?_
  refine cd_gom (M' := ((cd_KL L).take 79, cd_V14 xs, (fun _ _ => 0), cd_W75)) (by
    try rfl) ?_
  show cd_go 10 65 [.ref 66] [] ((cd_KL L).take 79, cd_V14 xs, (fun _ _ => 0), cd_W75) = _
  refine cd_q10_65 ?_
  refine (if_pos rfl).trans ?_
  refine cd_gom (M' := ((cd_KL L).take 79, cd_V15 xs, (fun _ _ => 0), cd_W75)) (by
    try rfl) ?_
  show cd_go 10 68 [.ref 66] [] ((cd_KL L).take 79, cd_V15 xs, (fun _ _ => 0), cd_W75) = _
  refine cd_q10_68 ?_
  refine (if_pos rfl).trans ?_
  refine cd_gom (M' := ((cd_KL L).take 79, cd_V15 xs, (fun _ _ => 0), cd_W75)) (by
    rw [cd_wIz (by rfl)]
    try rfl) ?_
  show cd_go 10 71 [.ref 66] [] ((cd_KL L).take 79, cd_V15 xs, (fun _ _ => 0), cd_W75) = _
  refine cd_q10_71 ?_
  refine (if_pos (Nat.le_of_ble_eq_true rfl)).trans ?_
  refine (if_pos rfl).trans ?_
  refine cd_cvb (M := _) (M' := ((cd_KL L).take 80, cd_V15 xs, (fun _ _ => 0), cd_W75)) (by
    rw [cd_newz (t := 6) (m := 5) (n := 79) rfl ((cd_VZ15 xs).mono (by decide) _ (Nat.le_refl _)) rfl (cd_WZ75.mono (by decide) _ (Nat.le_refl _))]
    try rfl) (cd_mk19) ?_
  refine cd_gom (M' := ((cd_KL L).take 83, cd_V15 xs, (fun _ _ => 0), cd_W78)) (by
    try rfl) ?_
  show cd_go 10 75 [.ref 66] [.ref 79, .ref 66] ((cd_KL L).take 83, cd_V15 xs, (fun _ _ => 0), cd_W78) = _
  refine cd_q10_75 ?_
  refine (if_pos rfl).trans ?_
  refine cd_gom (M' := ((cd_KL L).take 83, cd_V15 xs, (fun _ _ => 0), cd_W79)) (by
    try rfl) ?_
  show cd_go 10 76 [.ref 66] [] ((cd_KL L).take 83, cd_V15 xs, (fun _ _ => 0), cd_W79) = _
  refine cd_q10_76 ?_
  rfl
def cd_W80 : Nat → Nat → Nat := cd_up cd_W79 2 12 66
theorem cd_WZ80 : cd_Z 83 cd_W80 0 := (cd_WZ79.mono (by decide)).up (by decide)
def cd_W81 : Nat → Nat → Nat := cd_up cd_W80 83 4 84
theorem cd_WZ81 : cd_Z 85 cd_W81 0 := (cd_WZ80.mono (by decide)).up (by decide)
def cd_W82 : Nat → Nat → Nat := cd_up cd_W81 83 5 85
theorem cd_WZ82 : cd_Z 86 cd_W82 0 := (cd_WZ81.mono (by decide)).up (by decide)
def cd_W83 : Nat → Nat → Nat := cd_up cd_W82 83 6 86
theorem cd_WZ83 : cd_Z 87 cd_W83 0 := (cd_WZ82.mono (by decide)).up (by decide)
def cd_W84 : Nat → Nat → Nat := cd_up cd_W83 83 7 87
theorem cd_WZ84 : cd_Z 88 cd_W84 0 := (cd_WZ83.mono (by decide)).up (by decide)
def cd_W85 : Nat → Nat → Nat := cd_up cd_W84 83 8 88
theorem cd_WZ85 : cd_Z 89 cd_W85 0 := (cd_WZ84.mono (by decide)).up (by decide)
def cd_W86 : Nat → Nat → Nat := cd_up cd_W85 83 9 89
theorem cd_WZ86 : cd_Z 90 cd_W86 0 := (cd_WZ85.mono (by decide)).up (by decide)
def cd_W87 : Nat → Nat → Nat := cd_up cd_W86 83 10 90
theorem cd_WZ87 : cd_Z 91 cd_W87 0 := (cd_WZ86.mono (by decide)).up (by decide)
def cd_W88 : Nat → Nat → Nat := cd_up cd_W87 83 11 91
theorem cd_WZ88 : cd_Z 92 cd_W88 0 := (cd_WZ87.mono (by decide)).up (by decide)
def cd_W89 : Nat → Nat → Nat := cd_up cd_W88 83 12 92
theorem cd_WZ89 : cd_Z 93 cd_W89 0 := (cd_WZ88.mono (by decide)).up (by decide)
def cd_W90 : Nat → Nat → Nat := cd_up cd_W89 83 13 93
theorem cd_WZ90 : cd_Z 94 cd_W90 0 := (cd_WZ89.mono (by decide)).up (by decide)
def cd_W91 : Nat → Nat → Nat := cd_up cd_W90 83 14 94
theorem cd_WZ91 : cd_Z 95 cd_W91 0 := (cd_WZ90.mono (by decide)).up (by decide)
def cd_W92 : Nat → Nat → Nat := cd_up cd_W91 83 15 95
theorem cd_WZ92 : cd_Z 96 cd_W92 0 := (cd_WZ91.mono (by decide)).up (by decide)
def cd_V16 (xs : Nat → Int32) : Nat → Nat → Int32 := cd_up (cd_V15 xs) 83 16 60
theorem cd_VZ16 (xs : Nat → Int32) : cd_Z 96 (cd_V16 xs) 0 := ((cd_VZ15 xs).mono (by decide)).up (by decide)
def cd_V17 (xs : Nat → Int32) : Nat → Nat → Int32 := cd_up (cd_V16 xs) 83 17 10
theorem cd_VZ17 (xs : Nat → Int32) : cd_Z 96 (cd_V17 xs) 0 := ((cd_VZ16 xs).mono (by decide)).up (by decide)
def cd_W93 : Nat → Nat → Nat := cd_up cd_W92 96 0 97
theorem cd_WZ93 : cd_Z 98 cd_W93 0 := (cd_WZ92.mono (by decide)).up (by decide)
def cd_W94 : Nat → Nat → Nat := cd_up cd_W93 96 3 98
theorem cd_WZ94 : cd_Z 99 cd_W94 0 := (cd_WZ93.mono (by decide)).up (by decide)
def cd_W95 : Nat → Nat → Nat := cd_up cd_W94 96 4 99
theorem cd_WZ95 : cd_Z 100 cd_W95 0 := (cd_WZ94.mono (by decide)).up (by decide)
set_option maxRecDepth 100000 in
set_option maxHeartbeats 4000000 in
theorem cd_mk21 {L : Nat} {xs : Nat → Int32} : cd_c 5 [.ref 96] ((cd_KL L).take 97, cd_V17 xs, (fun _ _ => 0), cd_W92) = some (none, ((cd_KL L).take 100, cd_V17 xs, (fun _ _ => 0), cd_W95)) := by
  refine cd_c_of (l := [.ref 96]) rfl rfl ?_
  refine cd_q5_0 ?_
  refine (if_pos (by decide)).trans ?_
  refine (if_neg (cd_g3 rfl)).trans ?_
  refine (if_pos rfl).trans ?_
  refine cd_gom (M' := ((cd_KL L).take 98, cd_V17 xs, (fun _ _ => 0), cd_W93)) (by
    rw [cd_newz (t := 20) (m := 8) (n := 97) rfl ((cd_VZ17 xs).mono (by decide) _ (Nat.le_refl _)) rfl (cd_WZ92.mono (by decide) _ (Nat.le_refl _))]
    try rfl) ?_
  show cd_go 5 6 [.ref 96] [] ((cd_KL L).take 98, cd_V17 xs, (fun _ _ => 0), cd_W93) = _
  refine cd_q5_6 ?_
  refine (if_pos rfl).trans ?_
  refine cd_gom (M' := ((cd_KL L).take 98, cd_V17 xs, (fun _ _ => 0), cd_W93)) (by
    rw [cd_wIz (by rfl)]
    try rfl) ?_
  show cd_go 5 9 [.ref 96] [] ((cd_KL L).take 98, cd_V17 xs, (fun _ _ => 0), cd_W93) = _
  refine cd_q5_9 ?_
  refine (if_pos rfl).trans ?_
  refine cd_gom (M' := ((cd_KL L).take 98, cd_V17 xs, (fun _ _ => 0), cd_W93)) (by
    rw [cd_wIz (by rfl)]
    try rfl) ?_
  show cd_go 5 12 [.ref 96] [] ((cd_KL L).take 98, cd_V17 xs, (fun _ _ => 0), cd_W93) = _
  refine cd_q5_12 ?_
  refine (if_neg (cd_g3 rfl)).trans ?_
  refine (if_pos rfl).trans ?_
  refine cd_gom (M' := ((cd_KL L).take 99, cd_V17 xs, (fun _ _ => 0), cd_W94)) (by
    rw [cd_newz (t := 20) (m := 12) (n := 98) rfl ((cd_VZ17 xs).mono (by decide) _ (Nat.le_refl _)) rfl (cd_WZ93.mono (by decide) _ (Nat.le_refl _))]
    try rfl) ?_
  show cd_go 5 16 [.ref 96] [] ((cd_KL L).take 99, cd_V17 xs, (fun _ _ => 0), cd_W94) = _
  refine cd_q5_16 ?_
  refine (if_neg (cd_g3 rfl)).trans ?_
  refine (if_pos rfl).trans ?_
  refine cd_gom (M' := ((cd_KL L).take 100, cd_V17 xs, (fun _ _ => 0), cd_W95)) (by
    rw [cd_newz (t := 20) (m := 12) (n := 99) rfl ((cd_VZ17 xs).mono (by decide) _ (Nat.le_refl _)) rfl (cd_WZ94.mono (by decide) _ (Nat.le_refl _))]
    try rfl) ?_
  show cd_go 5 20 [.ref 96] [] ((cd_KL L).take 100, cd_V17 xs, (fun _ _ => 0), cd_W95) = _
  refine cd_q5_20 ?_
  rfl
def cd_W96 : Nat → Nat → Nat := cd_up cd_W95 83 19 96
theorem cd_WZ96 : cd_Z 100 cd_W96 0 := (cd_WZ95.mono (by decide)).up (by decide)
set_option maxRecDepth 100000 in
set_option maxHeartbeats 4000000 in
theorem cd_mk22 {L : Nat} {xs : Nat → Int32} : cd_c 10 [.ref 83] ((cd_KL L).take 84, cd_V15 xs, (fun _ _ => 0), cd_W80) = some (none, ((cd_KL L).take 100, cd_V17 xs, (fun _ _ => 0), cd_W96)) := by
  refine cd_c_of (l := [.ref 83]) rfl rfl ?_
  refine cd_q10_0 ?_
  refine (if_pos (by decide)).trans ?_
  refine (if_pos rfl).trans ?_
  refine cd_gom (M' := ((cd_KL L).take 84, cd_V15 xs, (fun _ _ => 0), cd_W80)) (by
    rw [cd_wIz (by rfl)]
    try rfl) ?_
  show cd_go 10 5 [.ref 83] [] ((cd_KL L).take 84, cd_V15 xs, (fun _ _ => 0), cd_W80) = _
  refine cd_q10_5 ?_
  refine (if_pos rfl).trans ?_
  refine cd_gom (M' := ((cd_KL L).take 84, cd_V15 xs, (fun _ _ => 0), cd_W80)) (by
    rw [cd_wIz (by rfl)]
    try rfl) ?_
  show cd_go 10 8 [.ref 83] [] ((cd_KL L).take 84, cd_V15 xs, (fun _ _ => 0), cd_W80) = _
  refine cd_q10_8 ?_
  refine (if_pos rfl).trans ?_
  refine cd_gom (M' := ((cd_KL L).take 84, cd_V15 xs, (fun _ _ => 0), cd_W80)) (by
    rw [cd_wIz (by rfl)]
    try rfl) ?_
  show cd_go 10 11 [.ref 83] [] ((cd_KL L).take 84, cd_V15 xs, (fun _ _ => 0), cd_W80) = _
  refine cd_q10_11 ?_
  refine (if_pos rfl).trans ?_
  refine cd_gom (M' := ((cd_KL L).take 84, cd_V15 xs, (fun _ _ => 0), cd_W80)) (by
    rw [cd_wIz (by rfl)]
    try rfl) ?_
  show cd_go 10 14 [.ref 83] [] ((cd_KL L).take 84, cd_V15 xs, (fun _ _ => 0), cd_W80) = _
  refine cd_q10_14 ?_
  refine (if_neg (cd_g3 rfl)).trans ?_
  refine (if_pos rfl).trans ?_
  refine cd_gom (M' := ((cd_KL L).take 85, cd_V15 xs, (fun _ _ => 0), cd_W81)) (by
    rw [cd_newz (t := 20) (m := 8) (n := 84) rfl ((cd_VZ15 xs).mono (by decide) _ (Nat.le_refl _)) rfl (cd_WZ80.mono (by decide) _ (Nat.le_refl _))]
    try rfl) ?_
  show cd_go 10 18 [.ref 83] [] ((cd_KL L).take 85, cd_V15 xs, (fun _ _ => 0), cd_W81) = _
  refine cd_q10_18 ?_
  refine (if_neg (cd_g3 rfl)).trans ?_
  refine (if_pos rfl).trans ?_
  refine cd_gom (M' := ((cd_KL L).take 86, cd_V15 xs, (fun _ _ => 0), cd_W82)) (by
    rw [cd_newz (t := 20) (m := 8) (n := 85) rfl ((cd_VZ15 xs).mono (by decide) _ (Nat.le_refl _)) rfl (cd_WZ81.mono (by decide) _ (Nat.le_refl _))]
    try rfl) ?_
  show cd_go 10 22 [.ref 83] [] ((cd_KL L).take 86, cd_V15 xs, (fun _ _ => 0), cd_W82) = _
  refine cd_q10_22 ?_
  refine (if_neg (cd_g3 rfl)).trans ?_
  refine (if_pos rfl).trans ?_
  refine cd_gom (M' := ((cd_KL L).take 87, cd_V15 xs, (fun _ _ => 0), cd_W83)) (by
    rw [cd_newz (t := 20) (m := 8) (n := 86) rfl ((cd_VZ15 xs).mono (by decide) _ (Nat.le_refl _)) rfl (cd_WZ82.mono (by decide) _ (Nat.le_refl _))]
    try rfl) ?_
  show cd_go 10 26 [.ref 83] [] ((cd_KL L).take 87, cd_V15 xs, (fun _ _ => 0), cd_W83) = _
  refine cd_q10_26 ?_
  refine (if_neg (cd_g3 rfl)).trans ?_
  refine (if_pos rfl).trans ?_
  refine cd_gom (M' := ((cd_KL L).take 88, cd_V15 xs, (fun _ _ => 0), cd_W84)) (by
    rw [cd_newz (t := 20) (m := 8) (n := 87) rfl ((cd_VZ15 xs).mono (by decide) _ (Nat.le_refl _)) rfl (cd_WZ83.mono (by decide) _ (Nat.le_refl _))]
    try rfl) ?_
  show cd_go 10 30 [.ref 83] [] ((cd_KL L).take 88, cd_V15 xs, (fun _ _ => 0), cd_W84) = _
  refine cd_q10_30 ?_
  refine (if_neg (cd_g3 rfl)).trans ?_
  refine (if_pos rfl).trans ?_
  refine cd_gom (M' := ((cd_KL L).take 89, cd_V15 xs, (fun _ _ => 0), cd_W85)) (by
    rw [cd_newz (t := 20) (m := 3) (n := 88) rfl ((cd_VZ15 xs).mono (by decide) _ (Nat.le_refl _)) rfl (cd_WZ84.mono (by decide) _ (Nat.le_refl _))]
    try rfl) ?_
  show cd_go 10 34 [.ref 83] [] ((cd_KL L).take 89, cd_V15 xs, (fun _ _ => 0), cd_W85) = _
  refine cd_q10_34 ?_
  refine (if_neg (cd_g3 rfl)).trans ?_
  refine (if_pos rfl).trans ?_
  refine cd_gom (M' := ((cd_KL L).take 90, cd_V15 xs, (fun _ _ => 0), cd_W86)) (by
    rw [cd_newz (t := 20) (m := 3) (n := 89) rfl ((cd_VZ15 xs).mono (by decide) _ (Nat.le_refl _)) rfl (cd_WZ85.mono (by decide) _ (Nat.le_refl _))]
    try rfl) ?_
  show cd_go 10 38 [.ref 83] [] ((cd_KL L).take 90, cd_V15 xs, (fun _ _ => 0), cd_W86) = _
  refine cd_q10_38 ?_
  refine (if_neg (cd_g3 rfl)).trans ?_
  refine (if_pos rfl).trans ?_
  refine cd_gom (M' := ((cd_KL L).take 91, cd_V15 xs, (fun _ _ => 0), cd_W87)) (by
    rw [cd_newz (t := 20) (m := 3) (n := 90) rfl ((cd_VZ15 xs).mono (by decide) _ (Nat.le_refl _)) rfl (cd_WZ86.mono (by decide) _ (Nat.le_refl _))]
    try rfl) ?_
  show cd_go 10 42 [.ref 83] [] ((cd_KL L).take 91, cd_V15 xs, (fun _ _ => 0), cd_W87) = _
  refine cd_q10_42 ?_
  refine (if_neg (cd_g3 rfl)).trans ?_
  refine (if_pos rfl).trans ?_
  refine cd_gom (M' := ((cd_KL L).take 92, cd_V15 xs, (fun _ _ => 0), cd_W88)) (by
    rw [cd_newz (t := 20) (m := 3) (n := 91) rfl ((cd_VZ15 xs).mono (by decide) _ (Nat.le_refl _)) rfl (cd_WZ87.mono (by decide) _ (Nat.le_refl _))]
    try rfl) ?_
  show cd_go 10 46 [.ref 83] [] ((cd_KL L).take 92, cd_V15 xs, (fun _ _ => 0), cd_W88) = _
  refine cd_q10_46 ?_
  refine (if_neg (cd_g3 rfl)).trans ?_
  refine (if_pos rfl).trans ?_
  refine cd_gom (M' := ((cd_KL L).take 93, cd_V15 xs, (fun _ _ => 0), cd_W89)) (by
    rw [cd_newz (t := 20) (m := 3) (n := 92) rfl ((cd_VZ15 xs).mono (by decide) _ (Nat.le_refl _)) rfl (cd_WZ88.mono (by decide) _ (Nat.le_refl _))]
    try rfl) ?_
  show cd_go 10 50 [.ref 83] [] ((cd_KL L).take 93, cd_V15 xs, (fun _ _ => 0), cd_W89) = _
  refine cd_q10_50 ?_
  refine (if_neg (cd_g3 rfl)).trans ?_
  refine (if_pos rfl).trans ?_
  refine cd_gom (M' := ((cd_KL L).take 94, cd_V15 xs, (fun _ _ => 0), cd_W90)) (by
    rw [cd_newz (t := 21) (m := 3) (n := 93) rfl ((cd_VZ15 xs).mono (by decide) _ (Nat.le_refl _)) rfl (cd_WZ89.mono (by decide) _ (Nat.le_refl _))]
    try rfl) ?_
  show cd_go 10 54 [.ref 83] [] ((cd_KL L).take 94, cd_V15 xs, (fun _ _ => 0), cd_W90) = _
  refine cd_q10_54 ?_
  refine (if_neg (cd_g3 rfl)).trans ?_
  refine (if_pos rfl).trans ?_
  refine cd_gom (M' := ((cd_KL L).take 95, cd_V15 xs, (fun _ _ => 0), cd_W91)) (by
    rw [cd_newz (t := 20) (m := 12) (n := 94) rfl ((cd_VZ15 xs).mono (by decide) _ (Nat.le_refl _)) rfl (cd_WZ90.mono (by decide) _ (Nat.le_refl _))]
    try rfl) ?_
  show cd_go 10 58 [.ref 83] [] ((cd_KL L).take 95, cd_V15 xs, (fun _ _ => 0), cd_W91) = _
  refine cd_q10_58 ?_
  refine (if_neg (cd_g3 rfl)).trans ?_
  refine (if_pos rfl).trans ?_
  refine cd_gom (M' := ((cd_KL L).take 96, cd_V15 xs, (fun _ _ => 0), cd_W92)) (by
    rw [cd_newz (t := 20) (m := 12) (n := 95) rfl ((cd_VZ15 xs).mono (by decide) _ (Nat.le_refl _)) rfl (cd_WZ91.mono (by decide) _ (Nat.le_refl _))]
    try rfl) ?_
  show cd_go 10 62 [.ref 83] [] ((cd_KL L).take 96, cd_V15 xs, (fun _ _ => 0), cd_W92) = _
  refine cd_q10_62 ?_
  refine (if_pos rfl).trans ?_
  refine cd_gom (M' := ((cd_KL L).take 96, cd_V16 xs, (fun _ _ => 0), cd_W92)) (by
    try rfl) ?_
  show cd_go 10 65 [.ref 83] [] ((cd_KL L).take 96, cd_V16 xs, (fun _ _ => 0), cd_W92) = _
  refine cd_q10_65 ?_
  refine (if_pos rfl).trans ?_
  refine cd_gom (M' := ((cd_KL L).take 96, cd_V17 xs, (fun _ _ => 0), cd_W92)) (by
    try rfl) ?_
  show cd_go 10 68 [.ref 83] [] ((cd_KL L).take 96, cd_V17 xs, (fun _ _ => 0), cd_W92) = _
  refine cd_q10_68 ?_
  refine (if_pos rfl).trans ?_
  refine cd_gom (M' := ((cd_KL L).take 96, cd_V17 xs, (fun _ _ => 0), cd_W92)) (by
    rw [cd_wIz (by rfl)]
    try rfl) ?_
  show cd_go 10 71 [.ref 83] [] ((cd_KL L).take 96, cd_V17 xs, (fun _ _ => 0), cd_W92) = _
  refine cd_q10_71 ?_
  refine (if_pos (Nat.le_of_ble_eq_true rfl)).trans ?_
  refine (if_pos rfl).trans ?_
  refine cd_cvb (M := _) (M' := ((cd_KL L).take 97, cd_V17 xs, (fun _ _ => 0), cd_W92)) (by
    rw [cd_newz (t := 6) (m := 5) (n := 96) rfl ((cd_VZ17 xs).mono (by decide) _ (Nat.le_refl _)) rfl (cd_WZ92.mono (by decide) _ (Nat.le_refl _))]
    try rfl) (cd_mk21) ?_
  refine cd_gom (M' := ((cd_KL L).take 100, cd_V17 xs, (fun _ _ => 0), cd_W95)) (by
    try rfl) ?_
  show cd_go 10 75 [.ref 83] [.ref 96, .ref 83] ((cd_KL L).take 100, cd_V17 xs, (fun _ _ => 0), cd_W95) = _
  refine cd_q10_75 ?_
  refine (if_pos rfl).trans ?_
  refine cd_gom (M' := ((cd_KL L).take 100, cd_V17 xs, (fun _ _ => 0), cd_W96)) (by
    try rfl) ?_
  show cd_go 10 76 [.ref 83] [] ((cd_KL L).take 100, cd_V17 xs, (fun _ _ => 0), cd_W96) = _
  refine cd_q10_76 ?_
  rfl
def cd_W97 : Nat → Nat → Nat := cd_up cd_W96 2 13 83
theorem cd_WZ97 : cd_Z 100 cd_W97 0 := (cd_WZ96.mono (by decide)).up (by decide)
def cd_V18 (xs : Nat → Int32) : Nat → Nat → Int32 := cd_up (cd_V17 xs) 2 15 (-1)
theorem cd_VZ18 (xs : Nat → Int32) : cd_Z 100 (cd_V18 xs) 0 := ((cd_VZ17 xs).mono (by decide)).up (by decide)
set_option maxRecDepth 100000 in
set_option maxHeartbeats 4000000 in
theorem cd_mk23 {L : Nat} {xs : Nat → Int32} : cd_c 11 [.ref 2] ((cd_KL L).take 3, cd_V0 xs, (fun _ _ => 0), cd_W0) = some (none, ((cd_KL L).take 100, cd_V18 xs, (fun _ _ => 0), cd_W97)) := by
  refine cd_c_of (l := [.ref 2]) rfl rfl ?_
  refine cd_q11_0 ?_
  refine (if_pos (by decide)).trans ?_
  refine (if_pos (Nat.le_of_ble_eq_true rfl)).trans ?_
  refine (if_pos rfl).trans ?_
  refine cd_cvb (M := _) (M' := ((cd_KL L).take 4, cd_V0 xs, (fun _ _ => 0), cd_W0)) (by
    rw [cd_newz (t := 4) (m := 9) (n := 3) rfl ((cd_VZ0 xs).mono (by decide) _ (Nat.le_refl _)) rfl (cd_WZ0.mono (by decide) _ (Nat.le_refl _))]
    try rfl) (cd_mk1) ?_
  refine cd_gom (M' := ((cd_KL L).take 5, cd_V1 xs, (fun _ _ => 0), cd_W1)) (by
    try rfl) ?_
  show cd_go 11 6 [.ref 2] [.ref 3, .ref 2] ((cd_KL L).take 5, cd_V1 xs, (fun _ _ => 0), cd_W1) = _
  refine cd_q11_6 ?_
  refine (if_pos rfl).trans ?_
  refine cd_gom (M' := ((cd_KL L).take 5, cd_V1 xs, (fun _ _ => 0), cd_W2)) (by
    try rfl) ?_
  show cd_go 11 7 [.ref 2] [] ((cd_KL L).take 5, cd_V1 xs, (fun _ _ => 0), cd_W2) = _
  refine cd_q11_7 ?_
  refine (if_pos (Nat.le_of_ble_eq_true rfl)).trans ?_
  refine (if_pos rfl).trans ?_
  refine cd_cvb (M := _) (M' := ((cd_KL L).take 6, cd_V1 xs, (fun _ _ => 0), cd_W2)) (by
    rw [cd_newz (t := 5) (m := 7) (n := 5) rfl ((cd_VZ1 xs).mono (by decide) _ (Nat.le_refl _)) rfl (cd_WZ2.mono (by decide) _ (Nat.le_refl _))]
    try rfl) (cd_mk4) ?_
  refine cd_gom (M' := ((cd_KL L).take 21, cd_V3 xs, (fun _ _ => 0), cd_W17)) (by
    try rfl) ?_
  show cd_go 11 11 [.ref 2] [.ref 5, .ref 2] ((cd_KL L).take 21, cd_V3 xs, (fun _ _ => 0), cd_W17) = _
  refine cd_q11_11 ?_
  refine (if_pos rfl).trans ?_
  refine cd_gom (M' := ((cd_KL L).take 21, cd_V3 xs, (fun _ _ => 0), cd_W18)) (by
    try rfl) ?_
  show cd_go 11 12 [.ref 2] [] ((cd_KL L).take 21, cd_V3 xs, (fun _ _ => 0), cd_W18) = _
  refine cd_q11_12 ?_
  refine (if_pos (Nat.le_of_ble_eq_true rfl)).trans ?_
  refine (if_pos rfl).trans ?_
  refine cd_cvb (M := _) (M' := ((cd_KL L).take 22, cd_V3 xs, (fun _ _ => 0), cd_W18)) (by
    rw [cd_newz (t := 8) (m := 13) (n := 21) rfl ((cd_VZ3 xs).mono (by decide) _ (Nat.le_refl _)) rfl (cd_WZ18.mono (by decide) _ (Nat.le_refl _))]
    try rfl) (cd_mk7) ?_
  refine cd_gom (M' := ((cd_KL L).take 32, cd_V3 xs, (fun _ _ => 0), cd_W28)) (by
    try rfl) ?_
  show cd_go 11 16 [.ref 2] [.ref 21, .ref 2] ((cd_KL L).take 32, cd_V3 xs, (fun _ _ => 0), cd_W28) = _
  refine cd_q11_16 ?_
  refine (if_pos rfl).trans ?_
  refine cd_gom (M' := ((cd_KL L).take 32, cd_V3 xs, (fun _ _ => 0), cd_W29)) (by
    try rfl) ?_
  show cd_go 11 17 [.ref 2] [] ((cd_KL L).take 32, cd_V3 xs, (fun _ _ => 0), cd_W29) = _
  refine cd_q11_17 ?_
  refine (if_pos (Nat.le_of_ble_eq_true rfl)).trans ?_
  refine (if_pos rfl).trans ?_
  refine cd_cvb (M := _) (M' := ((cd_KL L).take 33, cd_V3 xs, (fun _ _ => 0), cd_W29)) (by
    rw [cd_newz (t := 7) (m := 7) (n := 32) rfl ((cd_VZ3 xs).mono (by decide) _ (Nat.le_refl _)) rfl (cd_WZ29.mono (by decide) _ (Nat.le_refl _))]
    try rfl) (cd_mk8) ?_
  refine cd_gom (M' := ((cd_KL L).take 38, cd_V3 xs, (fun _ _ => 0), cd_W34)) (by
    try rfl) ?_
  show cd_go 11 21 [.ref 2] [.ref 32, .ref 2] ((cd_KL L).take 38, cd_V3 xs, (fun _ _ => 0), cd_W34) = _
  refine cd_q11_21 ?_
  refine (if_pos rfl).trans ?_
  refine cd_gom (M' := ((cd_KL L).take 38, cd_V3 xs, (fun _ _ => 0), cd_W35)) (by
    try rfl) ?_
  show cd_go 11 22 [.ref 2] [] ((cd_KL L).take 38, cd_V3 xs, (fun _ _ => 0), cd_W35) = _
  refine cd_q11_22 ?_
  refine (if_pos (Nat.le_of_ble_eq_true rfl)).trans ?_
  refine (if_pos rfl).trans ?_
  refine cd_cvb (M := _) (M' := ((cd_KL L).take 39, cd_V3 xs, (fun _ _ => 0), cd_W35)) (by
    rw [cd_newz (t := 1) (m := 3) (n := 38) rfl ((cd_VZ3 xs).mono (by decide) _ (Nat.le_refl _)) rfl (cd_WZ35.mono (by decide) _ (Nat.le_refl _))]
    try rfl) (cd_mk9) ?_
  refine cd_gom (M' := ((cd_KL L).take 42, cd_V3 xs, (fun _ _ => 0), cd_W38)) (by
    try rfl) ?_
  show cd_go 11 26 [.ref 2] [.ref 38, .ref 2] ((cd_KL L).take 42, cd_V3 xs, (fun _ _ => 0), cd_W38) = _
  refine cd_q11_26 ?_
  refine (if_pos rfl).trans ?_
  refine cd_gom (M' := ((cd_KL L).take 42, cd_V3 xs, (fun _ _ => 0), cd_W39)) (by
    try rfl) ?_
  show cd_go 11 27 [.ref 2] [] ((cd_KL L).take 42, cd_V3 xs, (fun _ _ => 0), cd_W39) = _
  refine cd_q11_27 ?_
  refine (if_pos (Nat.le_of_ble_eq_true rfl)).trans ?_
  refine (if_pos rfl).trans ?_
  refine cd_cvb (M := _) (M' := ((cd_KL L).take 43, cd_V3 xs, (fun _ _ => 0), cd_W39)) (by
    rw [cd_newz (t := 2) (m := 3) (n := 42) rfl ((cd_VZ3 xs).mono (by decide) _ (Nat.le_refl _)) rfl (cd_WZ39.mono (by decide) _ (Nat.le_refl _))]
    try rfl) (cd_mk10) ?_
  refine cd_gom (M' := ((cd_KL L).take 45, cd_V3 xs, (fun _ _ => 0), cd_W41)) (by
    try rfl) ?_
  show cd_go 11 31 [.ref 2] [.ref 42, .ref 2] ((cd_KL L).take 45, cd_V3 xs, (fun _ _ => 0), cd_W41) = _
  refine cd_q11_31 ?_
  refine (if_pos rfl).trans ?_
  refine cd_gom (M' := ((cd_KL L).take 45, cd_V3 xs, (fun _ _ => 0), cd_W42)) (by
    try rfl) ?_
  show cd_go 11 32 [.ref 2] [] ((cd_KL L).take 45, cd_V3 xs, (fun _ _ => 0), cd_W42) = _
  refine cd_q11_32 ?_
  refine (if_pos (Nat.le_of_ble_eq_true rfl)).trans ?_
  refine (if_pos rfl).trans ?_
  refine cd_cvb (M := _) (M' := ((cd_KL L).take 46, cd_V3 xs, (fun _ _ => 0), cd_W42)) (by
    rw [cd_newz (t := 6) (m := 5) (n := 45) rfl ((cd_VZ3 xs).mono (by decide) _ (Nat.le_refl _)) rfl (cd_WZ42.mono (by decide) _ (Nat.le_refl _))]
    try rfl) (cd_mk11) ?_
  refine cd_gom (M' := ((cd_KL L).take 49, cd_V3 xs, (fun _ _ => 0), cd_W45)) (by
    try rfl) ?_
  show cd_go 11 36 [.ref 2] [.ref 45, .ref 2] ((cd_KL L).take 49, cd_V3 xs, (fun _ _ => 0), cd_W45) = _
  refine cd_q11_36 ?_
  refine (if_pos rfl).trans ?_
  refine cd_gom (M' := ((cd_KL L).take 49, cd_V3 xs, (fun _ _ => 0), cd_W46)) (by
    try rfl) ?_
  show cd_go 11 37 [.ref 2] [] ((cd_KL L).take 49, cd_V3 xs, (fun _ _ => 0), cd_W46) = _
  refine cd_q11_37 ?_
  refine (if_neg (cd_g3 rfl)).trans ?_
  refine (if_pos (Nat.le_of_ble_eq_true rfl)).trans ?_
  refine (if_pos rfl).trans ?_
  refine cd_cvb (M := _) (M' := ((cd_KL L).take 51, cd_V3 xs, (fun _ _ => 0), cd_W46)) (by
    rw [cd_newz (t := 23) (m := 2) (n := 49) rfl ((cd_VZ3 xs).mono (by decide) _ (Nat.le_refl _)) rfl (cd_WZ46.mono (by decide) _ (Nat.le_refl _))]
    rw [cd_newz (t := 6) (m := 5) (n := 50) rfl ((cd_VZ3 xs).mono (by decide) _ (Nat.le_refl _)) rfl (cd_WZ46.mono (by decide) _ (Nat.le_refl _))]
    try rfl) (cd_mk12) ?_
  refine cd_gom (M' := ((cd_KL L).take 54, cd_V3 xs, (fun _ _ => 0), cd_W49)) (by
    try rfl) ?_
  show cd_go 11 45 [.ref 2] [.ref 50, .int 0, .ref 49, .ref 49, .ref 2] ((cd_KL L).take 54, cd_V3 xs, (fun _ _ => 0), cd_W49) = _
  refine cd_q11_45 ?_
  refine (if_pos ⟨rfl, rfl, rfl⟩).trans ?_
  refine (if_pos (Nat.le_of_ble_eq_true rfl)).trans ?_
  refine (if_pos rfl).trans ?_
  refine cd_cvb (M := _) (M' := ((cd_KL L).take 55, cd_V3 xs, (fun _ _ => 0), cd_W50)) (by
    show cd_new ((cd_KL L).take 54, cd_V3 xs, (fun _ _ => 0), cd_W50) 6 5 = _
    rw [cd_newz (t := 6) (m := 5) (n := 54) rfl ((cd_VZ3 xs).mono (by decide) _ (Nat.le_refl _)) rfl (cd_WZ50.mono (by decide) _ (Nat.le_refl _))]
    try rfl) (cd_mk13) ?_
  refine cd_gom (M' := ((cd_KL L).take 58, cd_V3 xs, (fun _ _ => 0), cd_W53)) (by
    try rfl) ?_
  show cd_go 11 51 [.ref 2] [.ref 54, .int 1, .ref 49, .ref 49, .ref 2] ((cd_KL L).take 58, cd_V3 xs, (fun _ _ => 0), cd_W53) = _
  refine cd_q11_51 ?_
  refine (if_pos ⟨rfl, rfl, rfl⟩).trans ?_
  refine (if_pos rfl).trans ?_
  refine cd_gom (M' := ((cd_KL L).take 58, cd_V3 xs, (fun _ _ => 0), cd_W55)) (by
    try rfl) ?_
  show cd_go 11 53 [.ref 2] [] ((cd_KL L).take 58, cd_V3 xs, (fun _ _ => 0), cd_W55) = _
  refine cd_q11_53 ?_
  refine (if_neg (cd_g3 rfl)).trans ?_
  refine (if_pos rfl).trans ?_
  refine cd_gom (M' := ((cd_KL L).take 59, cd_V3 xs, (fun _ _ => 0), cd_W56)) (by
    rw [cd_newz (t := 22) (m := 2) (n := 58) rfl ((cd_VZ3 xs).mono (by decide) _ (Nat.le_refl _)) rfl (cd_WZ55.mono (by decide) _ (Nat.le_refl _))]
    try rfl) ?_
  show cd_go 11 57 [.ref 2] [] ((cd_KL L).take 59, cd_V3 xs, (fun _ _ => 0), cd_W56) = _
  refine cd_q11_57 ?_
  refine (if_neg (cd_g3 rfl)).trans ?_
  refine (if_pos rfl).trans ?_
  refine cd_gom (M' := ((cd_KL L).take 60, cd_V3 xs, (fun _ _ => 0), cd_W57)) (by
    rw [cd_newz (t := 20) (m := 2) (n := 59) rfl ((cd_VZ3 xs).mono (by decide) _ (Nat.le_refl _)) rfl (cd_WZ56.mono (by decide) _ (Nat.le_refl _))]
    try rfl) ?_
  show cd_go 11 61 [.ref 2] [] ((cd_KL L).take 60, cd_V3 xs, (fun _ _ => 0), cd_W57) = _
  refine cd_q11_61 ?_
  refine (if_neg (cd_g3 rfl)).trans ?_
  refine (if_pos (Nat.le_of_ble_eq_true rfl)).trans ?_
  refine (if_pos rfl).trans ?_
  refine cd_cvb (M := _) (M' := ((cd_KL L).take 62, cd_V3 xs, (fun _ _ => 0), cd_W57)) (by
    rw [cd_newz (t := 24) (m := 4) (n := 60) rfl ((cd_VZ3 xs).mono (by decide) _ (Nat.le_refl _)) rfl (cd_WZ57.mono (by decide) _ (Nat.le_refl _))]
    rw [cd_newz (t := 9) (m := 5) (n := 61) rfl ((cd_VZ3 xs).mono (by decide) _ (Nat.le_refl _)) rfl (cd_WZ57.mono (by decide) _ (Nat.le_refl _))]
    try rfl) (cd_mk14) ?_
  refine cd_gom (M' := ((cd_KL L).take 62, cd_V5 xs, (fun _ _ => 0), cd_W57)) (by
    try rfl) ?_
  show cd_go 11 69 [.ref 2] [.ref 61, .int 0, .ref 60, .ref 60, .ref 2] ((cd_KL L).take 62, cd_V5 xs, (fun _ _ => 0), cd_W57) = _
  refine cd_q11_69 ?_
  refine (if_pos ⟨rfl, rfl, rfl⟩).trans ?_
  refine (if_pos (Nat.le_of_ble_eq_true rfl)).trans ?_
  refine (if_pos rfl).trans ?_
  refine cd_cvb (M := _) (M' := ((cd_KL L).take 63, cd_V5 xs, (fun _ _ => 0), cd_W58)) (by
    show cd_new ((cd_KL L).take 62, cd_V5 xs, (fun _ _ => 0), cd_W58) 9 5 = _
    rw [cd_newz (t := 9) (m := 5) (n := 62) rfl ((cd_VZ5 xs).mono (by decide) _ (Nat.le_refl _)) rfl (cd_WZ58.mono (by decide) _ (Nat.le_refl _))]
    try rfl) (cd_mk15) ?_
  refine cd_gom (M' := ((cd_KL L).take 63, cd_V7 xs, (fun _ _ => 0), cd_W58)) (by
    try rfl) ?_
  show cd_go 11 75 [.ref 2] [.ref 62, .int 1, .ref 60, .ref 60, .ref 2] ((cd_KL L).take 63, cd_V7 xs, (fun _ _ => 0), cd_W58) = _
  refine cd_q11_75 ?_
  refine (if_pos ⟨rfl, rfl, rfl⟩).trans ?_
  refine (if_pos (Nat.le_of_ble_eq_true rfl)).trans ?_
  refine (if_pos rfl).trans ?_
  refine cd_cvb (M := _) (M' := ((cd_KL L).take 64, cd_V7 xs, (fun _ _ => 0), cd_W59)) (by
    show cd_new ((cd_KL L).take 63, cd_V7 xs, (fun _ _ => 0), cd_W59) 9 5 = _
    rw [cd_newz (t := 9) (m := 5) (n := 63) rfl ((cd_VZ7 xs).mono (by decide) _ (Nat.le_refl _)) rfl (cd_WZ59.mono (by decide) _ (Nat.le_refl _))]
    try rfl) (cd_mk16) ?_
  refine cd_gom (M' := ((cd_KL L).take 64, cd_V9 xs, (fun _ _ => 0), cd_W59)) (by
    try rfl) ?_
  show cd_go 11 81 [.ref 2] [.ref 63, .int 2, .ref 60, .ref 60, .ref 2] ((cd_KL L).take 64, cd_V9 xs, (fun _ _ => 0), cd_W59) = _
  refine cd_q11_81 ?_
  refine (if_pos ⟨rfl, rfl, rfl⟩).trans ?_
  refine (if_pos (Nat.le_of_ble_eq_true rfl)).trans ?_
  refine (if_pos rfl).trans ?_
  refine cd_cvb (M := _) (M' := ((cd_KL L).take 65, cd_V9 xs, (fun _ _ => 0), cd_W60)) (by
    show cd_new ((cd_KL L).take 64, cd_V9 xs, (fun _ _ => 0), cd_W60) 9 5 = _
    rw [cd_newz (t := 9) (m := 5) (n := 64) rfl ((cd_VZ9 xs).mono (by decide) _ (Nat.le_refl _)) rfl (cd_WZ60.mono (by decide) _ (Nat.le_refl _))]
    try rfl) (cd_mk17) ?_
  refine cd_gom (M' := ((cd_KL L).take 65, cd_V11 xs, (fun _ _ => 0), cd_W60)) (by
    try rfl) ?_
  show cd_go 11 87 [.ref 2] [.ref 64, .int 3, .ref 60, .ref 60, .ref 2] ((cd_KL L).take 65, cd_V11 xs, (fun _ _ => 0), cd_W60) = _
  refine cd_q11_87 ?_
  refine (if_pos ⟨rfl, rfl, rfl⟩).trans ?_
  refine (if_pos rfl).trans ?_
  refine cd_gom (M' := ((cd_KL L).take 65, cd_V11 xs, (fun _ _ => 0), cd_W62)) (by
    try rfl) ?_
  show cd_go 11 89 [.ref 2] [] ((cd_KL L).take 65, cd_V11 xs, (fun _ _ => 0), cd_W62) = _
  refine cd_q11_89 ?_
  refine (if_pos (Nat.le_of_ble_eq_true rfl)).trans ?_
  refine (if_pos rfl).trans ?_
  refine cd_cvb (M := _) (M' := ((cd_KL L).take 66, cd_V11 xs, (fun _ _ => 0), cd_W62)) (by
    rw [cd_newz (t := 9) (m := 5) (n := 65) rfl ((cd_VZ11 xs).mono (by decide) _ (Nat.le_refl _)) rfl (cd_WZ62.mono (by decide) _ (Nat.le_refl _))]
    try rfl) (cd_mk18) ?_
  refine cd_gom (M' := ((cd_KL L).take 66, cd_V13 xs, (fun _ _ => 0), cd_W62)) (by
    try rfl) ?_
  show cd_go 11 93 [.ref 2] [.ref 65, .ref 2] ((cd_KL L).take 66, cd_V13 xs, (fun _ _ => 0), cd_W62) = _
  refine cd_q11_93 ?_
  refine (if_pos rfl).trans ?_
  refine cd_gom (M' := ((cd_KL L).take 66, cd_V13 xs, (fun _ _ => 0), cd_W63)) (by
    try rfl) ?_
  show cd_go 11 94 [.ref 2] [] ((cd_KL L).take 66, cd_V13 xs, (fun _ _ => 0), cd_W63) = _
  refine cd_q11_94 ?_
  refine (if_pos (Nat.le_of_ble_eq_true rfl)).trans ?_
  refine (if_pos rfl).trans ?_
  refine cd_cvb (M := _) (M' := ((cd_KL L).take 67, cd_V13 xs, (fun _ _ => 0), cd_W63)) (by
    rw [cd_newz (t := 3) (m := 20) (n := 66) rfl ((cd_VZ13 xs).mono (by decide) _ (Nat.le_refl _)) rfl (cd_WZ63.mono (by decide) _ (Nat.le_refl _))]
    try rfl) (cd_mk20) ?_
  refine cd_gom (M' := ((cd_KL L).take 83, cd_V15 xs, (fun _ _ => 0), cd_W79)) (by
    try rfl) ?_
  show cd_go 11 98 [.ref 2] [.ref 66, .ref 2] ((cd_KL L).take 83, cd_V15 xs, (fun _ _ => 0), cd_W79) = _
  refine cd_q11_98 ?_
  refine (if_pos rfl).trans ?_
  refine cd_gom (M' := ((cd_KL L).take 83, cd_V15 xs, (fun _ _ => 0), cd_W80)) (by
    try rfl) ?_
  show cd_go 11 99 [.ref 2] [] ((cd_KL L).take 83, cd_V15 xs, (fun _ _ => 0), cd_W80) = _
  refine cd_q11_99 ?_
  refine (if_pos (Nat.le_of_ble_eq_true rfl)).trans ?_
  refine (if_pos rfl).trans ?_
  refine cd_cvb (M := _) (M' := ((cd_KL L).take 84, cd_V15 xs, (fun _ _ => 0), cd_W80)) (by
    rw [cd_newz (t := 3) (m := 20) (n := 83) rfl ((cd_VZ15 xs).mono (by decide) _ (Nat.le_refl _)) rfl (cd_WZ80.mono (by decide) _ (Nat.le_refl _))]
    try rfl) (cd_mk22) ?_
  refine cd_gom (M' := ((cd_KL L).take 100, cd_V17 xs, (fun _ _ => 0), cd_W96)) (by
    try rfl) ?_
  show cd_go 11 103 [.ref 2] [.ref 83, .ref 2] ((cd_KL L).take 100, cd_V17 xs, (fun _ _ => 0), cd_W96) = _
  refine cd_q11_103 ?_
  refine (if_pos rfl).trans ?_
  refine cd_gom (M' := ((cd_KL L).take 100, cd_V17 xs, (fun _ _ => 0), cd_W97)) (by
    try rfl) ?_
  show cd_go 11 104 [.ref 2] [] ((cd_KL L).take 100, cd_V17 xs, (fun _ _ => 0), cd_W97) = _
  refine cd_q11_104 ?_
  refine (if_pos rfl).trans ?_
  refine cd_gom (M' := ((cd_KL L).take 100, cd_V17 xs, (fun _ _ => 0), cd_W97)) (by
    rw [cd_wIz (by rfl)]
    try rfl) ?_
  show cd_go 11 107 [.ref 2] [] ((cd_KL L).take 100, cd_V17 xs, (fun _ _ => 0), cd_W97) = _
  refine cd_q11_107 ?_
  refine (if_pos rfl).trans ?_
  refine cd_gom (M' := ((cd_KL L).take 100, cd_V18 xs, (fun _ _ => 0), cd_W97)) (by
    try rfl) ?_
  show cd_go 11 110 [.ref 2] [] ((cd_KL L).take 100, cd_V18 xs, (fun _ _ => 0), cd_W97) = _
  refine cd_q11_110 ?_
  refine (if_pos rfl).trans ?_
  refine cd_gom (M' := ((cd_KL L).take 100, cd_V18 xs, (fun _ _ => 0), cd_W97)) (by
    rw [cd_wIz (by rfl)]
    try rfl) ?_
  show cd_go 11 113 [.ref 2] [] ((cd_KL L).take 100, cd_V18 xs, (fun _ _ => 0), cd_W97) = _
  refine cd_q11_113 ?_
  rfl
def cd_W98 : Nat → Nat → Nat := cd_up cd_W97 100 1 101
theorem cd_WZ98 : cd_Z 102 cd_W98 0 := (cd_WZ97.mono (by decide)).up (by decide)
def cd_W99 : Nat → Nat → Nat := cd_up cd_W98 100 2 102
theorem cd_WZ99 : cd_Z 103 cd_W99 0 := (cd_WZ98.mono (by decide)).up (by decide)
def cd_W100 : Nat → Nat → Nat := cd_up cd_W99 100 3 103
theorem cd_WZ100 : cd_Z 104 cd_W100 0 := (cd_WZ99.mono (by decide)).up (by decide)
def cd_W101 : Nat → Nat → Nat := cd_up cd_W100 100 4 104
theorem cd_WZ101 : cd_Z 105 cd_W101 0 := (cd_WZ100.mono (by decide)).up (by decide)
def cd_W102 : Nat → Nat → Nat := cd_up cd_W101 100 5 105
theorem cd_WZ102 : cd_Z 106 cd_W102 0 := (cd_WZ101.mono (by decide)).up (by decide)
def cd_W103 : Nat → Nat → Nat := cd_up cd_W102 100 6 106
theorem cd_WZ103 : cd_Z 107 cd_W103 0 := (cd_WZ102.mono (by decide)).up (by decide)
def cd_W104 : Nat → Nat → Nat := cd_up cd_W103 100 8 107
theorem cd_WZ104 : cd_Z 108 cd_W104 0 := (cd_WZ103.mono (by decide)).up (by decide)
def cd_W105 : Nat → Nat → Nat := cd_up cd_W104 100 10 108
theorem cd_WZ105 : cd_Z 109 cd_W105 0 := (cd_WZ104.mono (by decide)).up (by decide)
def cd_W106 : Nat → Nat → Nat := cd_up cd_W105 100 11 109
theorem cd_WZ106 : cd_Z 110 cd_W106 0 := (cd_WZ105.mono (by decide)).up (by decide)
def cd_W107 : Nat → Nat → Nat := cd_up cd_W106 100 12 110
theorem cd_WZ107 : cd_Z 111 cd_W107 0 := (cd_WZ106.mono (by decide)).up (by decide)
def cd_W108 : Nat → Nat → Nat := cd_up cd_W107 100 13 111
theorem cd_WZ108 : cd_Z 112 cd_W108 0 := (cd_WZ107.mono (by decide)).up (by decide)
def cd_W109 : Nat → Nat → Nat := cd_up cd_W108 100 14 112
theorem cd_WZ109 : cd_Z 113 cd_W109 0 := (cd_WZ108.mono (by decide)).up (by decide)
def cd_V19 (xs : Nat → Int32) : Nat → Nat → Int32 := cd_up (cd_V18 xs) 100 15 60
theorem cd_VZ19 (xs : Nat → Int32) : cd_Z 113 (cd_V19 xs) 0 := ((cd_VZ18 xs).mono (by decide)).up (by decide)
def cd_V20 (xs : Nat → Int32) : Nat → Nat → Int32 := cd_up (cd_V19 xs) 100 16 10
theorem cd_VZ20 (xs : Nat → Int32) : cd_Z 113 (cd_V20 xs) 0 := ((cd_VZ19 xs).mono (by decide)).up (by decide)
def cd_W110 : Nat → Nat → Nat := cd_up cd_W109 100 17 113
theorem cd_WZ110 : cd_Z 114 cd_W110 0 := (cd_WZ109.mono (by decide)).up (by decide)
def cd_V21 (xs : Nat → Int32) : Nat → Nat → Int32 := cd_up (cd_V20 xs) 100 19 (-1)
theorem cd_VZ21 (xs : Nat → Int32) : cd_Z 114 (cd_V21 xs) 0 := ((cd_VZ20 xs).mono (by decide)).up (by decide)
def cd_W111 : Nat → Nat → Nat := cd_up cd_W110 100 26 114
theorem cd_WZ111 : cd_Z 115 cd_W111 0 := (cd_WZ110.mono (by decide)).up (by decide)
def cd_W112 : Nat → Nat → Nat := cd_up cd_W111 100 28 115
theorem cd_WZ112 : cd_Z 116 cd_W112 0 := (cd_WZ111.mono (by decide)).up (by decide)
def cd_W113 : Nat → Nat → Nat := cd_up cd_W112 100 30 116
theorem cd_WZ113 : cd_Z 117 cd_W113 0 := (cd_WZ112.mono (by decide)).up (by decide)
def cd_W114 : Nat → Nat → Nat := cd_up cd_W113 100 35 117
theorem cd_WZ114 : cd_Z 118 cd_W114 0 := (cd_WZ113.mono (by decide)).up (by decide)
def cd_W115 : Nat → Nat → Nat := cd_up cd_W114 100 36 118
theorem cd_WZ115 : cd_Z 119 cd_W115 0 := (cd_WZ114.mono (by decide)).up (by decide)
def cd_W116 : Nat → Nat → Nat := cd_up cd_W115 100 37 119
theorem cd_WZ116 : cd_Z 120 cd_W116 0 := (cd_WZ115.mono (by decide)).up (by decide)
def cd_W117 : Nat → Nat → Nat := cd_up cd_W116 100 41 120
theorem cd_WZ117 : cd_Z 121 cd_W117 0 := (cd_WZ116.mono (by decide)).up (by decide)
def cd_W118 : Nat → Nat → Nat := cd_up cd_W117 100 42 121
theorem cd_WZ118 : cd_Z 122 cd_W118 0 := (cd_WZ117.mono (by decide)).up (by decide)
def cd_W119 : Nat → Nat → Nat := cd_up cd_W118 100 43 122
theorem cd_WZ119 : cd_Z 123 cd_W119 0 := (cd_WZ118.mono (by decide)).up (by decide)
def cd_W120 : Nat → Nat → Nat := cd_up cd_W119 100 44 123
theorem cd_WZ120 : cd_Z 124 cd_W120 0 := (cd_WZ119.mono (by decide)).up (by decide)
def cd_W121 : Nat → Nat → Nat := cd_up cd_W120 100 45 124
theorem cd_WZ121 : cd_Z 125 cd_W121 0 := (cd_WZ120.mono (by decide)).up (by decide)
def cd_W122 : Nat → Nat → Nat := cd_up cd_W121 100 46 125
theorem cd_WZ122 : cd_Z 126 cd_W122 0 := (cd_WZ121.mono (by decide)).up (by decide)
def cd_W123 : Nat → Nat → Nat := cd_up cd_W122 100 47 126
theorem cd_WZ123 : cd_Z 127 cd_W123 0 := (cd_WZ122.mono (by decide)).up (by decide)
def cd_W124 : Nat → Nat → Nat := cd_up cd_W123 100 49 127
theorem cd_WZ124 : cd_Z 128 cd_W124 0 := (cd_WZ123.mono (by decide)).up (by decide)
def cd_W125 : Nat → Nat → Nat := cd_up cd_W124 100 50 128
theorem cd_WZ125 : cd_Z 129 cd_W125 0 := (cd_WZ124.mono (by decide)).up (by decide)
def cd_W126 : Nat → Nat → Nat := cd_up cd_W125 100 51 129
theorem cd_WZ126 : cd_Z 130 cd_W126 0 := (cd_WZ125.mono (by decide)).up (by decide)
def cd_W127 : Nat → Nat → Nat := cd_up cd_W126 100 52 130
theorem cd_WZ127 : cd_Z 131 cd_W127 0 := (cd_WZ126.mono (by decide)).up (by decide)
def cd_W128 : Nat → Nat → Nat := cd_up cd_W127 100 53 131
theorem cd_WZ128 : cd_Z 132 cd_W128 0 := (cd_WZ127.mono (by decide)).up (by decide)
def cd_W129 : Nat → Nat → Nat := cd_up cd_W128 100 55 132
theorem cd_WZ129 : cd_Z 133 cd_W129 0 := (cd_WZ128.mono (by decide)).up (by decide)
set_option maxRecDepth 100000 in
set_option maxHeartbeats 4000000 in
theorem cd_mk24 {L : Nat} {xs : Nat → Int32} : cd_c 137 [.ref 100] ((cd_KL L).take 101, cd_V18 xs, (fun _ _ => 0), cd_W97) = some (none, ((cd_KL L).take 133, cd_V21 xs, (fun _ _ => 0), cd_W129)) := by
  refine cd_c_of (l := [.ref 100]) rfl rfl ?_
  refine cd_q137_0 ?_
  refine (if_pos (by decide)).trans ?_
  refine (if_neg (cd_g3 rfl)).trans ?_
  refine (if_pos rfl).trans ?_
  refine cd_gom (M' := ((cd_KL L).take 102, cd_V18 xs, (fun _ _ => 0), cd_W98)) (by
    rw [cd_newz (t := 20) (m := 8) (n := 101) rfl ((cd_VZ18 xs).mono (by decide) _ (Nat.le_refl _)) rfl (cd_WZ97.mono (by decide) _ (Nat.le_refl _))]
    try rfl) ?_
  show cd_go 137 6 [.ref 100] [] ((cd_KL L).take 102, cd_V18 xs, (fun _ _ => 0), cd_W98) = _
  refine cd_q137_6 ?_
  refine (if_neg (cd_g3 rfl)).trans ?_
  refine (if_pos rfl).trans ?_
  refine cd_gom (M' := ((cd_KL L).take 103, cd_V18 xs, (fun _ _ => 0), cd_W99)) (by
    rw [cd_newz (t := 20) (m := 8) (n := 102) rfl ((cd_VZ18 xs).mono (by decide) _ (Nat.le_refl _)) rfl (cd_WZ98.mono (by decide) _ (Nat.le_refl _))]
    try rfl) ?_
  show cd_go 137 10 [.ref 100] [] ((cd_KL L).take 103, cd_V18 xs, (fun _ _ => 0), cd_W99) = _
  refine cd_q137_10 ?_
  refine (if_neg (cd_g3 rfl)).trans ?_
  refine (if_pos rfl).trans ?_
  refine cd_gom (M' := ((cd_KL L).take 104, cd_V18 xs, (fun _ _ => 0), cd_W100)) (by
    rw [cd_newz (t := 20) (m := 8) (n := 103) rfl ((cd_VZ18 xs).mono (by decide) _ (Nat.le_refl _)) rfl (cd_WZ99.mono (by decide) _ (Nat.le_refl _))]
    try rfl) ?_
  show cd_go 137 14 [.ref 100] [] ((cd_KL L).take 104, cd_V18 xs, (fun _ _ => 0), cd_W100) = _
  refine cd_q137_14 ?_
  refine (if_neg (cd_g3 rfl)).trans ?_
  refine (if_pos rfl).trans ?_
  refine cd_gom (M' := ((cd_KL L).take 105, cd_V18 xs, (fun _ _ => 0), cd_W101)) (by
    rw [cd_newz (t := 20) (m := 8) (n := 104) rfl ((cd_VZ18 xs).mono (by decide) _ (Nat.le_refl _)) rfl (cd_WZ100.mono (by decide) _ (Nat.le_refl _))]
    try rfl) ?_
  show cd_go 137 18 [.ref 100] [] ((cd_KL L).take 105, cd_V18 xs, (fun _ _ => 0), cd_W101) = _
  refine cd_q137_18 ?_
  refine (if_neg (cd_g3 rfl)).trans ?_
  refine (if_pos rfl).trans ?_
  refine cd_gom (M' := ((cd_KL L).take 106, cd_V18 xs, (fun _ _ => 0), cd_W102)) (by
    rw [cd_newz (t := 20) (m := 8) (n := 105) rfl ((cd_VZ18 xs).mono (by decide) _ (Nat.le_refl _)) rfl (cd_WZ101.mono (by decide) _ (Nat.le_refl _))]
    try rfl) ?_
  show cd_go 137 22 [.ref 100] [] ((cd_KL L).take 106, cd_V18 xs, (fun _ _ => 0), cd_W102) = _
  refine cd_q137_22 ?_
  refine (if_neg (cd_g3 rfl)).trans ?_
  refine (if_pos rfl).trans ?_
  refine cd_gom (M' := ((cd_KL L).take 107, cd_V18 xs, (fun _ _ => 0), cd_W103)) (by
    rw [cd_newz (t := 22) (m := 8) (n := 106) rfl ((cd_VZ18 xs).mono (by decide) _ (Nat.le_refl _)) rfl (cd_WZ102.mono (by decide) _ (Nat.le_refl _))]
    try rfl) ?_
  show cd_go 137 26 [.ref 100] [] ((cd_KL L).take 107, cd_V18 xs, (fun _ _ => 0), cd_W103) = _
  refine cd_q137_26 ?_
  refine (if_neg (cd_g3 rfl)).trans ?_
  refine (if_pos rfl).trans ?_
  refine cd_gom (M' := ((cd_KL L).take 108, cd_V18 xs, (fun _ _ => 0), cd_W104)) (by
    rw [cd_newz (t := 20) (m := 15) (n := 107) rfl ((cd_VZ18 xs).mono (by decide) _ (Nat.le_refl _)) rfl (cd_WZ103.mono (by decide) _ (Nat.le_refl _))]
    try rfl) ?_
  show cd_go 137 30 [.ref 100] [] ((cd_KL L).take 108, cd_V18 xs, (fun _ _ => 0), cd_W104) = _
  refine cd_q137_30 ?_
  refine (if_neg (cd_g3 rfl)).trans ?_
  refine (if_pos rfl).trans ?_
  refine cd_gom (M' := ((cd_KL L).take 109, cd_V18 xs, (fun _ _ => 0), cd_W105)) (by
    rw [cd_newz (t := 20) (m := 12) (n := 108) rfl ((cd_VZ18 xs).mono (by decide) _ (Nat.le_refl _)) rfl (cd_WZ104.mono (by decide) _ (Nat.le_refl _))]
    try rfl) ?_
  show cd_go 137 34 [.ref 100] [] ((cd_KL L).take 109, cd_V18 xs, (fun _ _ => 0), cd_W105) = _
  refine cd_q137_34 ?_
  refine (if_neg (cd_g3 rfl)).trans ?_
  refine (if_pos rfl).trans ?_
  refine cd_gom (M' := ((cd_KL L).take 110, cd_V18 xs, (fun _ _ => 0), cd_W106)) (by
    rw [cd_newz (t := 20) (m := 12) (n := 109) rfl ((cd_VZ18 xs).mono (by decide) _ (Nat.le_refl _)) rfl (cd_WZ105.mono (by decide) _ (Nat.le_refl _))]
    try rfl) ?_
  show cd_go 137 38 [.ref 100] [] ((cd_KL L).take 110, cd_V18 xs, (fun _ _ => 0), cd_W106) = _
  refine cd_q137_38 ?_
  refine (if_neg (cd_g3 rfl)).trans ?_
  refine (if_pos rfl).trans ?_
  refine cd_gom (M' := ((cd_KL L).take 111, cd_V18 xs, (fun _ _ => 0), cd_W107)) (by
    rw [cd_newz (t := 20) (m := 12) (n := 110) rfl ((cd_VZ18 xs).mono (by decide) _ (Nat.le_refl _)) rfl (cd_WZ106.mono (by decide) _ (Nat.le_refl _))]
    try rfl) ?_
  show cd_go 137 42 [.ref 100] [] ((cd_KL L).take 111, cd_V18 xs, (fun _ _ => 0), cd_W107) = _
  refine cd_q137_42 ?_
  refine (if_neg (cd_g3 rfl)).trans ?_
  refine (if_pos rfl).trans ?_
  refine cd_gom (M' := ((cd_KL L).take 112, cd_V18 xs, (fun _ _ => 0), cd_W108)) (by
    rw [cd_newz (t := 20) (m := 12) (n := 111) rfl ((cd_VZ18 xs).mono (by decide) _ (Nat.le_refl _)) rfl (cd_WZ107.mono (by decide) _ (Nat.le_refl _))]
    try rfl) ?_
  show cd_go 137 46 [.ref 100] [] ((cd_KL L).take 112, cd_V18 xs, (fun _ _ => 0), cd_W108) = _
  refine cd_q137_46 ?_
  refine (if_neg (cd_g3 rfl)).trans ?_
  refine (if_pos rfl).trans ?_
  refine cd_gom (M' := ((cd_KL L).take 113, cd_V18 xs, (fun _ _ => 0), cd_W109)) (by
    rw [cd_newz (t := 22) (m := 12) (n := 112) rfl ((cd_VZ18 xs).mono (by decide) _ (Nat.le_refl _)) rfl (cd_WZ108.mono (by decide) _ (Nat.le_refl _))]
    try rfl) ?_
  show cd_go 137 50 [.ref 100] [] ((cd_KL L).take 113, cd_V18 xs, (fun _ _ => 0), cd_W109) = _
  refine cd_q137_50 ?_
  refine (if_pos rfl).trans ?_
  refine cd_gom (M' := ((cd_KL L).take 113, cd_V19 xs, (fun _ _ => 0), cd_W109)) (by
    try rfl) ?_
  show cd_go 137 53 [.ref 100] [] ((cd_KL L).take 113, cd_V19 xs, (fun _ _ => 0), cd_W109) = _
  refine cd_q137_53 ?_
  refine (if_pos rfl).trans ?_
  refine cd_gom (M' := ((cd_KL L).take 113, cd_V20 xs, (fun _ _ => 0), cd_W109)) (by
    try rfl) ?_
  show cd_go 137 56 [.ref 100] [] ((cd_KL L).take 113, cd_V20 xs, (fun _ _ => 0), cd_W109) = _
  refine cd_q137_56 ?_
  refine (if_neg (cd_g3 rfl)).trans ?_
  refine (if_pos rfl).trans ?_
  refine cd_gom (M' := ((cd_KL L).take 114, cd_V20 xs, (fun _ _ => 0), cd_W110)) (by
    rw [cd_newz (t := 20) (m := 500) (n := 113) rfl ((cd_VZ20 xs).mono (by decide) _ (Nat.le_refl _)) rfl (cd_WZ109.mono (by decide) _ (Nat.le_refl _))]
    try rfl) ?_
  show cd_go 137 60 [.ref 100] [] ((cd_KL L).take 114, cd_V20 xs, (fun _ _ => 0), cd_W110) = _
  refine cd_q137_60 ?_
  refine (if_pos rfl).trans ?_
  refine cd_gom (M' := ((cd_KL L).take 114, cd_V21 xs, (fun _ _ => 0), cd_W110)) (by
    try rfl) ?_
  show cd_go 137 63 [.ref 100] [] ((cd_KL L).take 114, cd_V21 xs, (fun _ _ => 0), cd_W110) = _
  refine cd_q137_63 ?_
  refine (if_neg (cd_g3 rfl)).trans ?_
  refine (if_pos rfl).trans ?_
  refine cd_gom (M' := ((cd_KL L).take 115, cd_V21 xs, (fun _ _ => 0), cd_W111)) (by
    rw [cd_newz (t := 20) (m := 40) (n := 114) rfl ((cd_VZ21 xs).mono (by decide) _ (Nat.le_refl _)) rfl (cd_WZ110.mono (by decide) _ (Nat.le_refl _))]
    try rfl) ?_
  show cd_go 137 67 [.ref 100] [] ((cd_KL L).take 115, cd_V21 xs, (fun _ _ => 0), cd_W111) = _
  refine cd_q137_67 ?_
  refine (if_neg (cd_g3 rfl)).trans ?_
  refine (if_pos rfl).trans ?_
  refine cd_gom (M' := ((cd_KL L).take 116, cd_V21 xs, (fun _ _ => 0), cd_W112)) (by
    rw [cd_newz (t := 20) (m := 15) (n := 115) rfl ((cd_VZ21 xs).mono (by decide) _ (Nat.le_refl _)) rfl (cd_WZ111.mono (by decide) _ (Nat.le_refl _))]
    try rfl) ?_
  show cd_go 137 71 [.ref 100] [] ((cd_KL L).take 116, cd_V21 xs, (fun _ _ => 0), cd_W112) = _
  refine cd_q137_71 ?_
  refine (if_neg (cd_g3 rfl)).trans ?_
  refine (if_pos rfl).trans ?_
  refine cd_gom (M' := ((cd_KL L).take 117, cd_V21 xs, (fun _ _ => 0), cd_W113)) (by
    rw [cd_newz (t := 20) (m := 48) (n := 116) rfl ((cd_VZ21 xs).mono (by decide) _ (Nat.le_refl _)) rfl (cd_WZ112.mono (by decide) _ (Nat.le_refl _))]
    try rfl) ?_
  show cd_go 137 75 [.ref 100] [] ((cd_KL L).take 117, cd_V21 xs, (fun _ _ => 0), cd_W113) = _
  refine cd_q137_75 ?_
  refine (if_neg (cd_g3 rfl)).trans ?_
  refine (if_pos rfl).trans ?_
  refine cd_gom (M' := ((cd_KL L).take 118, cd_V21 xs, (fun _ _ => 0), cd_W114)) (by
    rw [cd_newz (t := 20) (m := 12) (n := 117) rfl ((cd_VZ21 xs).mono (by decide) _ (Nat.le_refl _)) rfl (cd_WZ113.mono (by decide) _ (Nat.le_refl _))]
    try rfl) ?_
  show cd_go 137 79 [.ref 100] [] ((cd_KL L).take 118, cd_V21 xs, (fun _ _ => 0), cd_W114) = _
  refine cd_q137_79 ?_
  refine (if_neg (cd_g3 rfl)).trans ?_
  refine (if_pos rfl).trans ?_
  refine cd_gom (M' := ((cd_KL L).take 119, cd_V21 xs, (fun _ _ => 0), cd_W115)) (by
    rw [cd_newz (t := 20) (m := 12) (n := 118) rfl ((cd_VZ21 xs).mono (by decide) _ (Nat.le_refl _)) rfl (cd_WZ114.mono (by decide) _ (Nat.le_refl _))]
    try rfl) ?_
  show cd_go 137 83 [.ref 100] [] ((cd_KL L).take 119, cd_V21 xs, (fun _ _ => 0), cd_W115) = _
  refine cd_q137_83 ?_
  refine (if_neg (cd_g3 rfl)).trans ?_
  refine (if_pos rfl).trans ?_
  refine cd_gom (M' := ((cd_KL L).take 120, cd_V21 xs, (fun _ _ => 0), cd_W116)) (by
    rw [cd_newz (t := 20) (m := 12) (n := 119) rfl ((cd_VZ21 xs).mono (by decide) _ (Nat.le_refl _)) rfl (cd_WZ115.mono (by decide) _ (Nat.le_refl _))]
    try rfl) ?_
  show cd_go 137 87 [.ref 100] [] ((cd_KL L).take 120, cd_V21 xs, (fun _ _ => 0), cd_W116) = _
  refine cd_q137_87 ?_
  refine (if_neg (cd_g3 rfl)).trans ?_
  refine (if_pos rfl).trans ?_
  refine cd_gom (M' := ((cd_KL L).take 121, cd_V21 xs, (fun _ _ => 0), cd_W117)) (by
    rw [cd_newz (t := 20) (m := 60) (n := 120) rfl ((cd_VZ21 xs).mono (by decide) _ (Nat.le_refl _)) rfl (cd_WZ116.mono (by decide) _ (Nat.le_refl _))]
    try rfl) ?_
  show cd_go 137 91 [.ref 100] [] ((cd_KL L).take 121, cd_V21 xs, (fun _ _ => 0), cd_W117) = _
  refine cd_q137_91 ?_
  refine (if_neg (cd_g3 rfl)).trans ?_
  refine (if_pos rfl).trans ?_
  refine cd_gom (M' := ((cd_KL L).take 122, cd_V21 xs, (fun _ _ => 0), cd_W118)) (by
    rw [cd_newz (t := 20) (m := 60) (n := 121) rfl ((cd_VZ21 xs).mono (by decide) _ (Nat.le_refl _)) rfl (cd_WZ117.mono (by decide) _ (Nat.le_refl _))]
    try rfl) ?_
  show cd_go 137 95 [.ref 100] [] ((cd_KL L).take 122, cd_V21 xs, (fun _ _ => 0), cd_W118) = _
  refine cd_q137_95 ?_
  refine (if_neg (cd_g3 rfl)).trans ?_
  refine (if_pos rfl).trans ?_
  refine cd_gom (M' := ((cd_KL L).take 123, cd_V21 xs, (fun _ _ => 0), cd_W119)) (by
    rw [cd_newz (t := 20) (m := 60) (n := 122) rfl ((cd_VZ21 xs).mono (by decide) _ (Nat.le_refl _)) rfl (cd_WZ118.mono (by decide) _ (Nat.le_refl _))]
    try rfl) ?_
  show cd_go 137 99 [.ref 100] [] ((cd_KL L).take 123, cd_V21 xs, (fun _ _ => 0), cd_W119) = _
  refine cd_q137_99 ?_
  refine (if_neg (cd_g3 rfl)).trans ?_
  refine (if_pos rfl).trans ?_
  refine cd_gom (M' := ((cd_KL L).take 124, cd_V21 xs, (fun _ _ => 0), cd_W120)) (by
    rw [cd_newz (t := 20) (m := 60) (n := 123) rfl ((cd_VZ21 xs).mono (by decide) _ (Nat.le_refl _)) rfl (cd_WZ119.mono (by decide) _ (Nat.le_refl _))]
    try rfl) ?_
  show cd_go 137 103 [.ref 100] [] ((cd_KL L).take 124, cd_V21 xs, (fun _ _ => 0), cd_W120) = _
  refine cd_q137_103 ?_
  refine (if_neg (cd_g3 rfl)).trans ?_
  refine (if_pos rfl).trans ?_
  refine cd_gom (M' := ((cd_KL L).take 125, cd_V21 xs, (fun _ _ => 0), cd_W121)) (by
    rw [cd_newz (t := 20) (m := 64) (n := 124) rfl ((cd_VZ21 xs).mono (by decide) _ (Nat.le_refl _)) rfl (cd_WZ120.mono (by decide) _ (Nat.le_refl _))]
    try rfl) ?_
  show cd_go 137 107 [.ref 100] [] ((cd_KL L).take 125, cd_V21 xs, (fun _ _ => 0), cd_W121) = _
  refine cd_q137_107 ?_
  refine (if_neg (cd_g3 rfl)).trans ?_
  refine (if_pos rfl).trans ?_
  refine cd_gom (M' := ((cd_KL L).take 126, cd_V21 xs, (fun _ _ => 0), cd_W122)) (by
    rw [cd_newz (t := 20) (m := 240) (n := 125) rfl ((cd_VZ21 xs).mono (by decide) _ (Nat.le_refl _)) rfl (cd_WZ121.mono (by decide) _ (Nat.le_refl _))]
    try rfl) ?_
  show cd_go 137 111 [.ref 100] [] ((cd_KL L).take 126, cd_V21 xs, (fun _ _ => 0), cd_W122) = _
  refine cd_q137_111 ?_
  refine (if_neg (cd_g3 rfl)).trans ?_
  refine (if_pos rfl).trans ?_
  refine cd_gom (M' := ((cd_KL L).take 127, cd_V21 xs, (fun _ _ => 0), cd_W123)) (by
    rw [cd_newz (t := 22) (m := 2) (n := 126) rfl ((cd_VZ21 xs).mono (by decide) _ (Nat.le_refl _)) rfl (cd_WZ122.mono (by decide) _ (Nat.le_refl _))]
    try rfl) ?_
  show cd_go 137 115 [.ref 100] [] ((cd_KL L).take 127, cd_V21 xs, (fun _ _ => 0), cd_W123) = _
  refine cd_q137_115 ?_
  refine (if_neg (cd_g3 rfl)).trans ?_
  refine (if_pos rfl).trans ?_
  refine cd_gom (M' := ((cd_KL L).take 128, cd_V21 xs, (fun _ _ => 0), cd_W124)) (by
    rw [cd_newz (t := 22) (m := 4096) (n := 127) rfl ((cd_VZ21 xs).mono (by decide) _ (Nat.le_refl _)) rfl (cd_WZ123.mono (by decide) _ (Nat.le_refl _))]
    try rfl) ?_
  show cd_go 137 119 [.ref 100] [] ((cd_KL L).take 128, cd_V21 xs, (fun _ _ => 0), cd_W124) = _
  refine cd_q137_119 ?_
  refine (if_neg (cd_g3 rfl)).trans ?_
  refine (if_pos rfl).trans ?_
  refine cd_gom (M' := ((cd_KL L).take 129, cd_V21 xs, (fun _ _ => 0), cd_W125)) (by
    rw [cd_newz (t := 22) (m := 4096) (n := 128) rfl ((cd_VZ21 xs).mono (by decide) _ (Nat.le_refl _)) rfl (cd_WZ124.mono (by decide) _ (Nat.le_refl _))]
    try rfl) ?_
  show cd_go 137 123 [.ref 100] [] ((cd_KL L).take 129, cd_V21 xs, (fun _ _ => 0), cd_W125) = _
  refine cd_q137_123 ?_
  refine (if_neg (cd_g3 rfl)).trans ?_
  refine (if_pos rfl).trans ?_
  refine cd_gom (M' := ((cd_KL L).take 130, cd_V21 xs, (fun _ _ => 0), cd_W126)) (by
    rw [cd_newz (t := 22) (m := 256) (n := 129) rfl ((cd_VZ21 xs).mono (by decide) _ (Nat.le_refl _)) rfl (cd_WZ125.mono (by decide) _ (Nat.le_refl _))]
    try rfl) ?_
  show cd_go 137 127 [.ref 100] [] ((cd_KL L).take 130, cd_V21 xs, (fun _ _ => 0), cd_W126) = _
  refine cd_q137_127 ?_
  refine (if_neg (cd_g3 rfl)).trans ?_
  refine (if_pos rfl).trans ?_
  refine cd_gom (M' := ((cd_KL L).take 131, cd_V21 xs, (fun _ _ => 0), cd_W127)) (by
    rw [cd_newz (t := 22) (m := 256) (n := 130) rfl ((cd_VZ21 xs).mono (by decide) _ (Nat.le_refl _)) rfl (cd_WZ126.mono (by decide) _ (Nat.le_refl _))]
    try rfl) ?_
  show cd_go 137 131 [.ref 100] [] ((cd_KL L).take 131, cd_V21 xs, (fun _ _ => 0), cd_W127) = _
  refine cd_q137_131 ?_
  refine (if_neg (cd_g3 rfl)).trans ?_
  refine (if_pos rfl).trans ?_
  refine cd_gom (M' := ((cd_KL L).take 132, cd_V21 xs, (fun _ _ => 0), cd_W128)) (by
    rw [cd_newz (t := 22) (m := 256) (n := 131) rfl ((cd_VZ21 xs).mono (by decide) _ (Nat.le_refl _)) rfl (cd_WZ127.mono (by decide) _ (Nat.le_refl _))]
    try rfl) ?_
  show cd_go 137 135 [.ref 100] [] ((cd_KL L).take 132, cd_V21 xs, (fun _ _ => 0), cd_W128) = _
  refine cd_q137_135 ?_
  refine (if_neg (cd_g3 rfl)).trans ?_
  refine (if_pos rfl).trans ?_
  refine cd_gom (M' := ((cd_KL L).take 133, cd_V21 xs, (fun _ _ => 0), cd_W129)) (by
    rw [cd_newz (t := 20) (m := 20) (n := 132) rfl ((cd_VZ21 xs).mono (by decide) _ (Nat.le_refl _)) rfl (cd_WZ128.mono (by decide) _ (Nat.le_refl _))]
    try rfl) ?_
  show cd_go 137 139 [.ref 100] [] ((cd_KL L).take 133, cd_V21 xs, (fun _ _ => 0), cd_W129) = _
  refine cd_q137_139 ?_
  refine (if_pos rfl).trans ?_
  refine cd_gom (M' := ((cd_KL L).take 133, cd_V21 xs, (fun _ _ => 0), cd_W129)) (by
    rw [cd_wIz (by rfl)]
    try rfl) ?_
  show cd_go 137 142 [.ref 100] [] ((cd_KL L).take 133, cd_V21 xs, (fun _ _ => 0), cd_W129) = _
  refine cd_q137_142 ?_
  rfl
theorem cd_made {L : Nat} {xs : Nat → Int32} {r : cd_Ret} (h : cd_go 246 10 [.ref 1, .ref 2, .ref 100, .int 0] [] (cd_KL L, cd_V21 xs, (fun _ _ => 0), cd_W129) = some r) : cd_go 246 0 [.ref 1, .null, .null, .null] [] (cd_M0 L xs) = some r := by
  refine cd_q246_0 ?_
  refine (if_pos (Nat.le_of_ble_eq_true rfl)).trans ?_
  refine (if_pos rfl).trans ?_
  refine cd_cvb (M' := ((cd_KL L).take 3, cd_V0 xs, (fun _ _ => 0), cd_W0)) (by
    show cd_new ((cd_KL L).take 2, cd_V0 xs, (fun _ _ => 0), cd_W0) 10 17 = _
    rw [cd_newz (t := 10) (m := 17) (n := 2) rfl ((cd_VZ0 xs) _ (Nat.le_refl _)) rfl (cd_WZ0 _ (Nat.le_refl _))]
    try rfl) (cd_mk23) ?_
  show cd_go 246 3 [.ref 1, .null, .null, .null] [.ref 2] ((cd_KL L).take 100, cd_V18 xs, (fun _ _ => 0), cd_W97) = _
  refine cd_q246_3 ?_
  refine (if_pos (Nat.le_of_ble_eq_true rfl)).trans ?_
  refine (if_pos rfl).trans ?_
  refine cd_cvb (M' := ((cd_KL L).take 101, cd_V18 xs, (fun _ _ => 0), cd_W97)) (by
    rw [cd_newz (t := 11) (m := 57) (n := 100) rfl ((cd_VZ18 xs).mono (by decide) _ (Nat.le_refl _)) rfl (cd_WZ97.mono (by decide) _ (Nat.le_refl _))]
    try rfl) (cd_mk24) ?_
  show cd_go 246 7 [.ref 1, .ref 2, .null, .null] [.ref 100] ((cd_KL L).take 133, cd_V21 xs, (fun _ _ => 0), cd_W129) = _
  refine cd_q246_7 ?_
  exact h
