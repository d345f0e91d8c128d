/-! ===== the reference: a den kept ===== -/
section CFM
variable {L : Nat} {w : Bool} {I : Nat → Nat → Int32} {J : Nat → Nat → Int64} {D : cd_D} {S : cd_S}
/-- what keeping leaves alone -/
def ce_x169 (a j : Nat) : Prop := 101 ≤ a ∧ a ≤ 112 ∨ a = 126 ∨ a = 100 ∧ (j = 0 ∨ j = 7 ∨ j = 9 ∨ j = 15 ∨ j = 16 ∨ j = 40)
theorem cp_169 (hP : ce_P D S I) (hO : ce_okP D S) : cw L w (cd_c 169 [.ref 100] (cd_mm L w I J)) (fun v I1 J1 => v = none ∧ J1 = J ∧ (∀ a j, ¬ ce_x169 a j → I1 a j = I a j) ∧ cd_refD D I1 ∧ cd_refS D S I1 ∧ I1 100 40 = nI 0 ∧ I1 126 0 = nI 0 ∧ I1 126 1 = nI 0) := by
  obtain ⟨hD, -, z1, z2, -, -⟩ := hO
  have hd := hD.1
  obtain ⟨⟨b1, b2, b3, b4, b5, -, -⟩, p2, p3, p4⟩ := hP
  refine cw_c (l := [_, _]) rfl rfl ?_
  refine cw_m (fun _ => cd_s169_0) ?_
  rw [cd_up_k (by decide), cd_up_k (by decide), cd_up_k (by decide), cd_up_k (by decide), cd_up_k (by decide), cd_up_k (by decide), cd_up_k (by decide), cd_up_k (by decide), cd_up_k (by decide), cd_up_k (by decide), b1, b2, b3, b4, b5]
  generalize hI0 : cd_up (cd_up (cd_up (cd_up (cd_up I 100 0 (nI (D 0 0))) 100 7 (nI (D 0 1))) 100 9 (nI (D 0 2))) 100 15 (nI (D 0 16))) 100 16 (nI (D 0 17)) = I0
  have f0 : ∀ a j, ¬ ce_x169 a j → I0 a j = I a j := fun a j h => by
    unfold ce_x169 at h
    rw [← hI0, cd_up_k2 (by omega), cd_up_k2 (by omega), cd_up_k2 (by omega), cd_up_k2 (by omega), cd_up_k2 (by omega)]
  have r1 : I0 100 0 = nI (D 0 0) ∧ I0 100 7 = nI (D 0 1) ∧ I0 100 9 = nI (D 0 2) ∧ I0 100 15 = nI (D 0 16) ∧ I0 100 16 = nI (D 0 17) := by
    rw [← hI0]
    refine ⟨?_, ?_, ?_, ?_, ?_⟩
    · rw [cd_up_k (by decide), cd_up_k (by decide), cd_up_k (by decide), cd_up_k (by decide), cd_up_s]
    · rw [cd_up_k (by decide), cd_up_k (by decide), cd_up_k (by decide), cd_up_s]
    · rw [cd_up_k (by decide), cd_up_k (by decide), cd_up_s]
    · rw [cd_up_k (by decide), cd_up_s]
    · rw [cd_up_s]
  clear hI0
  -- the holds
  have third : ∀ I2 : Nat → Nat → Int32, (∀ a j, ¬ ce_x169 a j → I2 a j = I a j) → (I2 100 0 = nI (D 0 0) ∧ I2 100 7 = nI (D 0 1) ∧ I2 100 9 = nI (D 0 2) ∧ I2 100 15 = nI (D 0 16) ∧ I2 100 16 = nI (D 0 17)) → (∀ t, t < D 0 0 → I2 101 t = nI (S 1 t) ∧ I2 102 t = nI (D 1 t) ∧ I2 103 t = nI (D 2 t) ∧ I2 104 t = nI (D 3 t) ∧ I2 105 t = nI (D 4 t) ∧ I2 106 t = nI 0) → (∀ j, j < 15 → I2 107 j = I 115 j) → cw L w (cd_go 169 108 [.ref 100, .int 0] [] (cd_mm L w I2 J)) (fun v I1 J1 => v = none ∧ J1 = J ∧ (∀ a j, ¬ ce_x169 a j → I1 a j = I a j) ∧ cd_refD D I1 ∧ cd_refS D S I1 ∧ I1 100 40 = nI 0 ∧ I1 126 0 = nI 0 ∧ I1 126 1 = nI 0) := by
    intro I2 f2 q1 q2 q3
    refine cw_up (fun i (I3 : Nat → Nat → Int32) => cd_go 169 108 [.ref 100, .int (nI i)] [] (cd_mm L w I3 J)) (fun i I3 => (∀ a j, ¬ (108 ≤ a ∧ a ≤ 112) → I3 a j = I2 a j) ∧ ∀ k, k < i → I3 108 k = nI (D 11 k) ∧ I3 109 k = nI (D 12 k) ∧ I3 110 k = nI (S 2 k) ∧ I3 111 k = nI (S 3 k) ∧ I3 112 k = nI 1) (D 0 2) ?_ ?_ 0 I2 (Nat.zero_le _) ⟨fun _ _ _ => rfl, fun k hk => absurd hk (Nat.not_lt_zero k)⟩
    · intro I3 ⟨f3, a3⟩
      have h9 : I3 100 9 = nI (D 0 2) := (f3 _ _ (by omega)).trans q1.2.2.1
      refine cw_m (fun _ => cd_s169_108) ?_
      rw [h9, if_neg (fun h => Int32.lt_irrefl h), if_pos (by decide), if_pos (by decide)]
      rw [show ((0 : Int32).toNatClampNeg) = 0 from rfl, show ((1 : Int32).toNatClampNeg) = 1 from rfl]
      have g : ∀ a j, a ≠ 126 → ¬ (a = 100 ∧ j = 40) → cd_up (cd_up (cd_up I3 100 40 0) 126 0 0) 126 1 0 a j = I3 a j := fun a j h1 h2 => by rw [cd_up_a h1, cd_up_a h1, cd_up_k2 h2]
      have g2 : ∀ a j, a ≠ 126 → ¬ (a = 100 ∧ j = 40) → ¬ (108 ≤ a ∧ a ≤ 112) → cd_up (cd_up (cd_up I3 100 40 0) 126 0 0) 126 1 0 a j = I2 a j := fun a j h1 h2 h3 => (g a j h1 h2).trans (f3 a j h3)
      refine cw_ret ⟨rfl, rfl, fun a j h => ?_, ⟨⟨?_, ?_, ?_, ?_, ?_⟩, fun t ht => ?_, fun k hk => ?_, fun k hk => ?_⟩, ⟨fun t ht => ?_, fun k hk => ?_⟩, ?_, ?_, ?_⟩
      · unfold ce_x169 at h
        rw [g2 a j (by omega) (by omega) (by omega)]
        exact f2 a j (by unfold ce_x169; omega)
      · rw [g2 _ _ (by decide) (by omega) (by omega)]; exact q1.1
      · rw [g2 _ _ (by decide) (by omega) (by omega)]; exact q1.2.1
      · rw [g2 _ _ (by decide) (by omega) (by omega)]; exact q1.2.2.1
      · rw [g2 _ _ (by decide) (by omega) (by omega)]; exact q1.2.2.2.1
      · rw [g2 _ _ (by decide) (by omega) (by omega)]; exact q1.2.2.2.2
      · rw [g2 _ _ (by decide) (by omega) (by omega), g2 _ _ (by decide) (by omega) (by omega), g2 _ _ (by decide) (by omega) (by omega), g2 _ _ (by decide) (by omega) (by omega)]
        obtain ⟨-, u2, u3, u4, u5, -⟩ := q2 t ht
        exact ⟨u2, u3, u4, u5⟩
      · rw [g2 _ _ (by decide) (by omega) (by omega), g2 _ _ (by decide) (by omega) (by omega), g2 _ _ (by decide) (by omega) (by omega), g2 _ _ (by decide) (by omega) (by omega), g2 _ _ (by decide) (by omega) (by omega), q3 _ (by omega), q3 _ (by omega), q3 _ (by omega), q3 _ (by omega), q3 _ (by omega)]
        exact p3 k hk
      · rw [g _ _ (by decide) (by omega), g _ _ (by decide) (by omega)]
        exact ⟨(a3 k hk).1, (a3 k hk).2.1⟩
      · rw [g2 _ _ (by decide) (by omega) (by omega), g2 _ _ (by decide) (by omega) (by omega), z1, Nat.zero_testBit]
        exact ⟨(q2 t ht).1, (q2 t ht).2.2.2.2.2⟩
      · rw [g _ _ (by decide) (by omega), g _ _ (by decide) (by omega), g _ _ (by decide) (by omega), show S 0 2 = 2 ^ D 0 2 - 1 by omega, Nat.testBit_two_pow_sub_one, decide_eq_true hk]
        exact ⟨(a3 k hk).2.2.1, (a3 k hk).2.2.2.1, (a3 k hk).2.2.2.2⟩
      · rw [cd_up_a (by decide), cd_up_a (by decide), cd_up_s]; rfl
      · rw [cd_up_k (by decide), cd_up_s]; rfl
      · rw [cd_up_s]; rfl
    · intro i I3 hi ⟨f3, a3⟩ K
      replace f3 : ∀ a j, ¬ (108 ≤ a ∧ a ≤ 112) → I3 a j = I2 a j := f3
      have h9 : I3 100 9 = nI (D 0 2) := (f3 _ _ (by omega)).trans q1.2.2.1
      obtain ⟨u1, u2, u3, u4⟩ := p4 i hi
      have v : ∀ j, I3 116 j = I 116 j := fun j => (f3 _ _ (by omega)).trans (f2 _ _ (by unfold ce_x169; omega))
      rw [← v] at u1 u2 u3 u4
      show cw L w (cd_go 169 108 _ _ (cd_mm L w I3 J)) _
      refine cw_m (fun _ => cd_s169_108) ?_
      have q1' : (4 : Int32) * nI i = nI (4 * i) := by rw [fa_lit, pk_mul]
      rw [q1', show nI (4 * i) + 1 = nI (4 * i + 1) from nI_1 _, show nI (4 * i) + 2 = nI (4 * i + 2) from nI_add _ 2, show nI (4 * i) + 3 = nI (4 * i + 3) from nI_add _ 3, h9, if_pos (nI_lt hi (by omega)), if_pos (cd_inN (by omega) (by decide)), if_pos (cd_inN (by omega) (by decide)), if_pos (cd_inN (by omega) (by decide)), if_pos (cd_inN (by omega) (by decide)), if_pos (cd_inN (by omega) (by decide)), if_pos (cd_inN (by omega) (by decide)), if_pos (cd_inN (by omega) (by decide)), if_pos (cd_inN (by omega) (by decide)), if_pos (cd_inN (by omega) (by decide)), nI_clamp (by omega), nI_clamp (by omega), nI_clamp (by omega), nI_clamp (by omega), nI_clamp (by omega), cd_up_a (by decide), cd_up_a (by decide), cd_up_a (by decide), cd_up_a (by decide), cd_up_a (by decide), cd_up_a (by decide), u1, u2, u3, u4, nI_1]
      have y : ∀ a j, cd_up (cd_up (cd_up (cd_up (cd_up I3 108 i (nI (D 11 i))) 109 i (nI (D 12 i))) 110 i (nI (S 2 i))) 111 i (nI (S 3 i))) 112 i 1 a j = if a = 112 then (if j = i then 1 else I3 112 j) else if a = 111 then (if j = i then nI (S 3 i) else I3 111 j) else if a = 110 then (if j = i then nI (S 2 i) else I3 110 j) else if a = 109 then (if j = i then nI (D 12 i) else I3 109 j) else if a = 108 then (if j = i then nI (D 11 i) else I3 108 j) else I3 a j := by
        intro a j
        show (if a = 112 then _ else _) = _
        by_cases h : a = 112
        · subst h; rfl
        · rw [if_neg h, if_neg h]
          show (if a = 111 then _ else _) = _
          by_cases h : a = 111
          · subst h; rfl
          · rw [if_neg h, if_neg h]
            show (if a = 110 then _ else _) = _
            by_cases h : a = 110
            · subst h; rfl
            · rw [if_neg h, if_neg h]
              show (if a = 109 then _ else _) = _
              by_cases h : a = 109
              · subst h; rfl
              · rw [if_neg h, if_neg h]
                show (if a = 108 then _ else _) = _
                by_cases h : a = 108
                · subst h; rfl
                · rw [if_neg h, if_neg h]
      refine K _ ⟨fun a j h => ?_, fun k hk => ?_⟩
      · rw [y, if_neg (by omega), if_neg (by omega), if_neg (by omega), if_neg (by omega), if_neg (by omega)]
        exact f3 a j h
      · rw [y, y, y, y, y]
        by_cases hki : k = i
        · subst hki
          simp
          rfl
        · have := a3 k (by omega)
          simp [hki]
          exact this
  -- the cloths
  have second : ∀ I2 : Nat → Nat → Int32, (∀ a j, ¬ ce_x169 a j → I2 a j = I a j) → (I2 100 0 = nI (D 0 0) ∧ I2 100 7 = nI (D 0 1) ∧ I2 100 9 = nI (D 0 2) ∧ I2 100 15 = nI (D 0 16) ∧ I2 100 16 = nI (D 0 17)) → (∀ t, t < D 0 0 → I2 101 t = nI (S 1 t) ∧ I2 102 t = nI (D 1 t) ∧ I2 103 t = nI (D 2 t) ∧ I2 104 t = nI (D 3 t) ∧ I2 105 t = nI (D 4 t) ∧ I2 106 t = nI 0) → cw L w (cd_go 169 93 [.ref 100, .int 0] [] (cd_mm L w I2 J)) (fun v I1 J1 => v = none ∧ J1 = J ∧ (∀ a j, ¬ ce_x169 a j → I1 a j = I a j) ∧ cd_refD D I1 ∧ cd_refS D S I1 ∧ I1 100 40 = nI 0 ∧ I1 126 0 = nI 0 ∧ I1 126 1 = nI 0) := by
    intro I2 f2 q1 q2
    refine cw_up (fun i (I3 : Nat → Nat → Int32) => cd_go 169 93 [.ref 100, .int (nI i)] [] (cd_mm L w I3 J)) (fun i I3 => (∀ a j, a ≠ 107 → I3 a j = I2 a j) ∧ ∀ k, k < i → I3 107 k = I 115 k) 15 ?_ ?_ 0 I2 (Nat.zero_le _) ⟨fun _ _ _ => rfl, fun k hk => absurd hk (Nat.not_lt_zero k)⟩
    · intro I3 ⟨f3, a3⟩
      refine cw_m (fun _ => cd_s169_93) ?_
      rw [if_neg (show ¬ nI 15 < 15 by decide)]
      refine third I3 (fun a j h => ?_) ?_ (fun t ht => ?_) a3
      · rw [f3 a j (by unfold ce_x169 at h; omega)]; exact f2 a j h
      · rw [f3 _ _ (by decide), f3 _ _ (by decide), f3 _ _ (by decide), f3 _ _ (by decide), f3 _ _ (by decide)]; exact q1
      · rw [f3 _ _ (by decide), f3 _ _ (by decide), f3 _ _ (by decide), f3 _ _ (by decide), f3 _ _ (by decide), f3 _ _ (by decide)]; exact q2 t ht
    · intro i I3 hi ⟨f3, a3⟩ K
      replace f3 : ∀ a j, a ≠ 107 → I3 a j = I2 a j := f3
      show cw L w (cd_go 169 93 _ _ (cd_mm L w I3 J)) _
      refine cw_m (fun _ => cd_s169_93) ?_
      rw [if_pos (show nI i < 15 from nI_lt (b := 15) hi (by decide)), if_pos (cd_inN (by omega) (by decide)), if_pos (cd_inN (by omega) (by decide)), nI_clamp (by omega), nI_1, f3 115 i (by decide), f2 115 i (by unfold ce_x169; omega)]
      refine K _ ⟨fun a j h => (cd_up_a h).trans (f3 a j h), fun k hk => ?_⟩
      by_cases hki : k = i
      · subst hki; exact cd_up_s
      · rw [cd_up_k hki]; exact a3 k (by omega)
  -- the things
  refine cw_up (fun i (I3 : Nat → Nat → Int32) => cd_go 169 22 [.ref 100, .int (nI i)] [] (cd_mm L w I3 J)) (fun i I3 => (∀ a j, ¬ (101 ≤ a ∧ a ≤ 106) → I3 a j = I0 a j) ∧ ∀ t, t < i → I3 101 t = nI (S 1 t) ∧ I3 102 t = nI (D 1 t) ∧ I3 103 t = nI (D 2 t) ∧ I3 104 t = nI (D 3 t) ∧ I3 105 t = nI (D 4 t) ∧ I3 106 t = nI 0) (D 0 0) ?_ ?_ 0 I0 (Nat.zero_le _) ⟨fun _ _ _ => rfl, fun k hk => absurd hk (Nat.not_lt_zero k)⟩
  · intro I3 ⟨f3, a3⟩
    have h0 : I3 100 0 = nI (D 0 0) := (f3 _ _ (by omega)).trans r1.1
    refine cw_m (fun _ => cd_s169_22) ?_
    rw [h0, if_neg (fun h => Int32.lt_irrefl h)]
    refine second I3 (fun a j h => ?_) ?_ a3
    · rw [f3 a j (by unfold ce_x169 at h; omega)]; exact f0 a j h
    · rw [f3 _ _ (by omega), f3 _ _ (by omega), f3 _ _ (by omega), f3 _ _ (by omega), f3 _ _ (by omega)]; exact r1
  · intro i I3 hi ⟨f3, a3⟩ K
    replace f3 : ∀ a j, ¬ (101 ≤ a ∧ a ≤ 106) → I3 a j = I0 a j := f3
    have h0 : I3 100 0 = nI (D 0 0) := (f3 _ _ (by omega)).trans r1.1
    obtain ⟨u1, u2, u3, u4, u5⟩ := p2 i hi
    have v : ∀ j, I3 114 j = I 114 j := fun j => (f3 _ _ (by omega)).trans (f0 _ _ (by unfold ce_x169; omega))
    rw [← v] at u1 u2 u3 u4 u5
    show cw L w (cd_go 169 22 _ _ (cd_mm L w I3 J)) _
    refine cw_m (fun _ => cd_s169_22) ?_
    have q1' : (5 : Int32) * nI i = nI (5 * i) := by rw [fa_lit, pk_mul]
    rw [q1', show nI (5 * i) + 1 = nI (5 * i + 1) from nI_1 _, show nI (5 * i) + 2 = nI (5 * i + 2) from nI_add _ 2, show nI (5 * i) + 3 = nI (5 * i + 3) from nI_add _ 3, show nI (5 * i) + 4 = nI (5 * i + 4) from nI_add _ 4, h0, if_pos (nI_lt hi (by omega)), if_pos (cd_inN (by omega) (by decide)), if_pos (cd_inN (by omega) (by decide)), if_pos (cd_inN (by omega) (by decide)), if_pos (cd_inN (by omega) (by decide)), if_pos (cd_inN (by omega) (by decide)), if_pos (cd_inN (by omega) (by decide)), if_pos (cd_inN (by omega) (by decide)), if_pos (cd_inN (by omega) (by decide)), if_pos (cd_inN (by omega) (by decide)), if_pos (cd_inN (by omega) (by decide)), if_pos (cd_inN (by omega) (by decide)), nI_clamp (by omega), nI_clamp (by omega), nI_clamp (by omega), nI_clamp (by omega), nI_clamp (by omega), nI_clamp (by omega), cd_up_a (by decide), cd_up_a (by decide), cd_up_a (by decide), cd_up_a (by decide), cd_up_a (by decide), cd_up_a (by decide), cd_up_a (by decide), cd_up_a (by decide), cd_up_a (by decide), cd_up_a (by decide), u1, u2, u3, u4, u5, nI_1]
    have y : ∀ a j, cd_up (cd_up (cd_up (cd_up (cd_up (cd_up I3 101 i (nI (S 1 i))) 102 i (nI (D 1 i))) 103 i (nI (D 2 i))) 104 i (nI (D 3 i))) 105 i (nI (D 4 i))) 106 i 0 a j = if a = 106 then (if j = i then 0 else I3 106 j) else if a = 105 then (if j = i then nI (D 4 i) else I3 105 j) else if a = 104 then (if j = i then nI (D 3 i) else I3 104 j) else if a = 103 then (if j = i then nI (D 2 i) else I3 103 j) else if a = 102 then (if j = i then nI (D 1 i) else I3 102 j) else if a = 101 then (if j = i then nI (S 1 i) else I3 101 j) else I3 a j := by
      intro a j
      show (if a = 106 then _ else _) = _
      by_cases h : a = 106
      · subst h; rfl
      · rw [if_neg h, if_neg h]
        show (if a = 105 then _ else _) = _
        by_cases h : a = 105
        · subst h; rfl
        · rw [if_neg h, if_neg h]
          show (if a = 104 then _ else _) = _
          by_cases h : a = 104
          · subst h; rfl
          · rw [if_neg h, if_neg h]
            show (if a = 103 then _ else _) = _
            by_cases h : a = 103
            · subst h; rfl
            · rw [if_neg h, if_neg h]
              show (if a = 102 then _ else _) = _
              by_cases h : a = 102
              · subst h; rfl
              · rw [if_neg h, if_neg h]
                show (if a = 101 then _ else _) = _
                by_cases h : a = 101
                · subst h; rfl
                · rw [if_neg h, if_neg h]
    refine K _ ⟨fun a j h => ?_, fun k hk => ?_⟩
    · rw [y, if_neg (by omega), if_neg (by omega), if_neg (by omega), if_neg (by omega), if_neg (by omega), if_neg (by omega)]
      exact f3 a j h
    · rw [y, y, y, y, y, y]
      by_cases hki : k = i
      · subst hki
        simp
        rfl
      · have := a3 k (by omega)
        simp [hki]
        exact this
end CFM
