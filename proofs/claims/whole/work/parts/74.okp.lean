/-! ===== a den half told is a den ===== -/
section CFK
variable {D : cd_D} {S : cd_S} {x : Nat → Nat} {n q s e : Nat}
theorem ce_okP_T {c h w r b : Nat} (hP : ce_okP D S) (h8 : D 0 0 < 8) (hc : c < 64) (htk : ce_tk D S c = false) (hh : 1 ≤ h ∧ h < 21) (hw : 1 ≤ w ∧ w < 100) (hr : r < 100) (hb : 1 ≤ b ∧ b < 10) : ce_okP (ce_aT D h w r b) (cd_up S 1 (D 0 0) c) := by
  obtain ⟨⟨⟨d1, d2, d3, d4, d5⟩, dt, dc, dh⟩, ⟨⟨s1, s2, s3, s4⟩, sr, si, sb, ss⟩, z1, z2, z3, z4⟩ := hP
  have e1 : ∀ u, ce_aT D h w r b 1 u = if u = D 0 0 then h else D 1 u := fun _ => rfl
  have e2 : ∀ u, ce_aT D h w r b 2 u = if u = D 0 0 then w else D 2 u := fun _ => rfl
  have e3 : ∀ u, ce_aT D h w r b 3 u = if u = D 0 0 then r else D 3 u := fun _ => rfl
  have e4 : ∀ u, ce_aT D h w r b 4 u = if u = D 0 0 then b else D 4 u := fun _ => rfl
  have f1 : ∀ u, cd_up S 1 (D 0 0) c 1 u = if u = D 0 0 then c else S 1 u := fun _ => rfl
  have hne : ∀ u, u < D 0 0 → S 1 u ≠ c := fun u hu he => by
    have : ce_tk D S c = true := ce_any_t.mpr ⟨u, hu, decide_eq_true he⟩
    rw [this] at htk; cases htk
  refine ⟨⟨⟨show D 0 0 + 1 ≤ 8 by omega, d2, d3, d4, d5⟩, fun t ht => ?_, dc, fun k hk => ?_⟩, ⟨⟨fun t ht => ?_, ?_, s3, s4⟩, fun k hk hh => ?_, fun t u ht hu htu => ?_, sb, ss⟩, z1, z2, z3, z4⟩
  · replace ht : t < D 0 0 + 1 := ht
    rw [e1, e2, e3, e4]
    by_cases h0 : t = D 0 0
    · rw [if_pos h0, if_pos h0, if_pos h0, if_pos h0]; omega
    · rw [if_neg h0, if_neg h0, if_neg h0, if_neg h0]; exact dt t (by omega)
  · have := dh k hk
    exact ⟨this.1, Nat.lt_succ_of_lt this.2⟩
  · replace ht : t < D 0 0 + 1 := ht
    rw [f1]
    by_cases h0 : t = D 0 0
    · rw [if_pos h0]; exact hc
    · rw [if_neg h0]; exact s1 t (by omega)
  · show S 0 1 < 2 ^ (D 0 0 + 1)
    rw [Nat.pow_succ]
    omega
  · have := dh k hk
    show cd_und D (D 11 k) (cd_up S 1 (D 0 0) c 1 (D 12 k)) = true
    rw [f1, if_neg (by omega)]
    exact sr k hk hh
  · replace ht : t < D 0 0 + 1 := ht
    replace hu : u < D 0 0 + 1 := hu
    rw [f1, f1] at htu
    by_cases h0 : t = D 0 0
    · by_cases h1 : u = D 0 0
      · omega
      · rw [if_pos h0, if_neg h1] at htu
        exact absurd htu.symm (hne u (by omega))
    · by_cases h1 : u = D 0 0
      · rw [if_neg h0, if_pos h1] at htu
        exact absurd htu (hne t (by omega))
      · rw [if_neg h0, if_neg h1] at htu
        exact si t u (by omega) (by omega) htu
theorem ce_okP_C {c a d g l : Nat} (hP : ce_okP D S) (h3 : D 0 1 < 3) (hc : c < 64) (ha : 1 ≤ a ∧ c / 8 + a ≤ 8) (hd : 1 ≤ d ∧ c % 8 + d ≤ 8) (hg : 1 ≤ g ∧ g < 10) (hl : 1 ≤ l ∧ l < 10) : ce_okP (ce_aC D c a d g l) S := by
  obtain ⟨⟨⟨d1, d2, d3, d4, d5⟩, dt, dc, dh⟩, ⟨⟨s1, s2, s3, s4⟩, sr, si, sb, ss⟩, z1, z2, z3, z4⟩ := hP
  have e5 : ∀ u, ce_aC D c a d g l 5 u = if u = D 0 1 then c else D 5 u := fun _ => rfl
  have e6 : ∀ u, ce_aC D c a d g l 6 u = if u = D 0 1 then a else D 6 u := fun _ => rfl
  have e7 : ∀ u, ce_aC D c a d g l 7 u = if u = D 0 1 then d else D 7 u := fun _ => rfl
  have e8 : ∀ u, ce_aC D c a d g l 8 u = if u = D 0 1 then g else D 8 u := fun _ => rfl
  have e9 : ∀ u, ce_aC D c a d g l 9 u = if u = D 0 1 then l else D 9 u := fun _ => rfl
  refine ⟨⟨⟨d1, show D 0 1 + 1 ≤ 3 by omega, d3, d4, d5⟩, dt, fun k hk => ?_, fun k hk => ?_⟩, ⟨⟨s1, s2, s3, s4⟩, fun k hk hh => ?_, si, sb, ss⟩, z1, z2, z3, z4⟩
  · replace hk : k < D 0 1 + 1 := hk
    rw [e5, e6, e7, e8, e9]
    by_cases h0 : k = D 0 1
    · rw [if_pos h0, if_pos h0, if_pos h0, if_pos h0, if_pos h0]; omega
    · rw [if_neg h0, if_neg h0, if_neg h0, if_neg h0, if_neg h0]; exact dc k (by omega)
  · have := dh k hk
    exact ⟨Nat.lt_succ_of_lt this.1, this.2⟩
  · have := dh k hk
    have r := sr k hk hh
    unfold cd_und at r ⊢
    show ((decide (ce_aC D c a d g l 5 (D 11 k) / 8 ≤ S 1 (D 12 k) / 8) && decide (S 1 (D 12 k) / 8 < ce_aC D c a d g l 5 (D 11 k) / 8 + ce_aC D c a d g l 6 (D 11 k))) && (decide (ce_aC D c a d g l 5 (D 11 k) % 8 ≤ S 1 (D 12 k) % 8) && decide (S 1 (D 12 k) % 8 < ce_aC D c a d g l 5 (D 11 k) % 8 + ce_aC D c a d g l 7 (D 11 k)))) = true
    rw [e5, e6, e7, if_neg (by omega), if_neg (by omega), if_neg (by omega)]
    exact r
theorem ce_okP_H {c t v b : Nat} (hP : ce_okP D S) (h12 : D 0 2 < 12) (hc : c < D 0 1) (ht : t < D 0 0) (hu : cd_und D c (S 1 t) = true) (hv : v ≤ 4) (hb : b ≤ 99) (hb0 : v ≠ 2 → b = 0) : ce_okP (ce_aH D c t) (ce_aS D S v b) := by
  obtain ⟨⟨⟨d1, d2, d3, d4, d5⟩, dt, dc, dh⟩, ⟨⟨s1, s2, s3, s4⟩, sr, si, sb, ss⟩, z1, z2, z3, z4⟩ := hP
  have e1 : ∀ u, ce_aH D c t 11 u = if u = D 0 2 then c else D 11 u := fun _ => rfl
  have e2 : ∀ u, ce_aH D c t 12 u = if u = D 0 2 then t else D 12 u := fun _ => rfl
  have f2 : ∀ u, ce_aS D S v b 2 u = if u = D 0 2 then v else S 2 u := fun _ => rfl
  have f3 : ∀ u, ce_aS D S v b 3 u = if u = D 0 2 then b else S 3 u := fun _ => rfl
  have f0 : ce_aS D S v b 0 2 = S 0 2 + 2 ^ D 0 2 := rfl
  have hs : ce_aS D S v b 0 2 + 1 = 2 ^ (D 0 2 + 1) := by rw [f0, Nat.pow_succ]; omega
  refine ⟨⟨⟨d1, d2, show D 0 2 + 1 ≤ 12 by omega, d4, d5⟩, dt, dc, fun k hk => ?_⟩, ⟨⟨s1, s2, show ce_aS D S v b 0 2 < 2 ^ (D 0 2 + 1) by omega, fun k hk => ?_⟩, fun k hk hh => ?_, si, fun k hk => ?_, ss⟩, z1, hs, z3, z4⟩
  · replace hk : k < D 0 2 + 1 := hk
    rw [e1, e2]
    by_cases h0 : k = D 0 2
    · rw [if_pos h0, if_pos h0]; exact ⟨hc, ht⟩
    · rw [if_neg h0, if_neg h0]; exact dh k (by omega)
  · replace hk : k < D 0 2 + 1 := hk
    rw [f2, f3]
    by_cases h0 : k = D 0 2
    · rw [if_pos h0, if_pos h0]; exact ⟨hv, hb⟩
    · rw [if_neg h0, if_neg h0]; exact s4 k (by omega)
  · replace hk : k < D 0 2 + 1 := hk
    show cd_und D (ce_aH D c t 11 k) (S 1 (ce_aH D c t 12 k)) = true
    rw [e1, e2]
    by_cases h0 : k = D 0 2
    · rw [if_pos h0, if_pos h0]; exact hu
    · rw [if_neg h0, if_neg h0]
      refine sr k (by omega) ?_
      have : k < D 0 2 := by omega
      show (S 0 2).testBit k = true
      rw [show S 0 2 = 2 ^ D 0 2 - 1 by omega, Nat.testBit_two_pow_sub_one, decide_eq_true this]
  · replace hk : k < D 0 2 + 1 := hk
    rw [f2, f3]
    by_cases h0 : k = D 0 2
    · rw [if_pos h0, if_pos h0]; exact hb0
    · rw [if_neg h0, if_neg h0]; exact sb k (by omega)
theorem ce_okP_L {a b : Nat} (hP : ce_okP D S) (ha : a < 100) (hb : b < 21) : ce_okP (ce_aL D a b) S := by
  obtain ⟨⟨⟨d1, d2, d3, d4, d5⟩, dt, dc, dh⟩, ⟨⟨s1, s2, s3, s4⟩, sr, si, sb, ss⟩, z1, z2, z3, z4⟩ := hP
  exact ⟨⟨⟨d1, d2, d3, show a ≤ 99 by omega, show b ≤ 20 by omega⟩, dt, dc, dh⟩, ⟨⟨s1, s2, s3, s4⟩, sr, si, sb, ss⟩, z1, z2, z3, Nat.le_refl 1⟩
theorem ce_okP_R {t : Nat} (hP : ce_okP D S) (ht : t < D 0 0) : ce_okP (cd_up D 0 3 (D 0 3 ||| 2 ^ t)) S := by
  obtain ⟨⟨⟨d1, d2, d3, d4, d5⟩, dt, dc, dh⟩, ⟨⟨s1, s2, s3, s4⟩, sr, si, sb, ss⟩, z1, z2, z3, z4⟩ := hP
  refine ⟨⟨⟨d1, d2, d3, d4, d5⟩, dt, dc, dh⟩, ⟨⟨s1, s2, s3, s4⟩, sr, si, sb, ss⟩, z1, z2, ?_, z4⟩
  show D 0 3 ||| 2 ^ t < 2 ^ 8
  exact Nat.or_lt_two_pow z3 (Nat.pow_lt_pow_of_lt (by decide) (by omega))
theorem ce_bd_ok {α β : Type} {r : Except (Nat × Nat) α} {f : α → Except (Nat × Nat) β} {b : β} (h : ce_bd r f = .ok b) : ∃ a, r = .ok a ∧ f a = .ok b := by
  cases r with
  | error e => cases h
  | ok a => exact ⟨a, rfl, h⟩
theorem ce_bd_er {α β : Type} {r : Except (Nat × Nat) α} {f : α → Except (Nat × Nat) β} {b : Nat × Nat} (h : ce_bd r f = .error b) : r = .error b ∨ ∃ a, r = .ok a ∧ f a = .error b := by
  cases r with
  | error e => exact Or.inl (by cases h; rfl)
  | ok a => exact Or.inr ⟨a, rfl, h⟩
/-- what a clause's word is followed by -/
theorem ce_pW_ok (hP : ce_okP D S) (hs : s ≤ e) (he : e ≤ n) {z : Nat} {D1 : cd_D} {S1 : cd_S} (h : ce_pW x n s e D S = .ok (z, D1, S1)) : e ≤ z ∧ z ≤ n ∧ ce_okP D1 S1 ∧ S1 0 3 = S 0 3 := by
  unfold ce_pW at h
  split at h
  · cases h
  · split at h
    · cases h
    · rename_i h8
      unfold ce_pT at h
      obtain ⟨⟨c, cs, ce⟩, a1, h⟩ := ce_bd_ok h
      dsimp only at h
      split at h
      · cases h
      · rename_i htk
        obtain ⟨⟨hh, hs2, he2⟩, a2, h⟩ := ce_bd_ok h
        obtain ⟨⟨ww, ws, we⟩, a3, h⟩ := ce_bd_ok h
        obtain ⟨⟨rr, rs, re⟩, a4, h⟩ := ce_bd_ok h
        obtain ⟨⟨bb, bs, be⟩, a5, h⟩ := ce_bd_ok h
        cases h
        obtain ⟨l1, u1, p1, q1, -⟩ := ce_num_b he a1
        obtain ⟨l2, u2, p2, q2, -⟩ := ce_num_b q1 a2
        obtain ⟨l3, u3, p3, q3, -⟩ := ce_num_b q2 a3
        obtain ⟨l4, u4, p4, q4, -⟩ := ce_num_b q3 a4
        obtain ⟨l5, u5, p5, q5, -⟩ := ce_num_b q4 a5
        dsimp only at p2 p3 p4 p5 q5 ⊢
        exact ⟨by omega, q5, ce_okP_T hP (by have := hP.1.1.1; omega) u1 (by simpa using htk) ⟨l2, u2⟩ ⟨l3, u3⟩ u4 ⟨l5, u5⟩, rfl⟩
  · split at h
    · cases h
    · rename_i h3
      unfold ce_pC at h
      obtain ⟨⟨c, cs, ce⟩, a1, h⟩ := ce_bd_ok h
      obtain ⟨⟨hh, hs2, he2⟩, a2, h⟩ := ce_bd_ok h
      obtain ⟨⟨ww, ws, we⟩, a3, h⟩ := ce_bd_ok h
      dsimp only at h
      split at h
      · cases h
      · rename_i hr
        obtain ⟨⟨rr, rs, re⟩, a4, h⟩ := ce_bd_ok h
        obtain ⟨⟨bb, bs, be⟩, a5, h⟩ := ce_bd_ok h
        cases h
        obtain ⟨l1, u1, p1, q1, -⟩ := ce_num_b he a1
        obtain ⟨l2, u2, p2, q2, -⟩ := ce_num_b q1 a2
        obtain ⟨l3, u3, p3, q3, -⟩ := ce_num_b q2 a3
        obtain ⟨l4, u4, p4, q4, -⟩ := ce_num_b q3 a4
        obtain ⟨l5, u5, p5, q5, -⟩ := ce_num_b q4 a5
        dsimp only at p2 p3 p4 p5 q5 ⊢
        exact ⟨by omega, q5, ce_okP_C hP (by have := hP.1.1.2.1; omega) u1 ⟨l2, by omega⟩ ⟨l3, by omega⟩ ⟨l4, u4⟩ ⟨l5, u5⟩, rfl⟩
  · split at h
    · cases h
    · rename_i h12
      unfold ce_pH at h
      obtain ⟨⟨c, cs, ce⟩, a1, h⟩ := ce_bd_ok h
      obtain ⟨⟨t, ts, te⟩, a2, h⟩ := ce_bd_ok h
      dsimp only at h
      obtain ⟨l1, u1, p1, q1, -⟩ := ce_num_b he a1
      obtain ⟨l2, u2, p2, q2, -⟩ := ce_num_b q1 a2
      split at h
      · cases h
      · rename_i hg
        split at h
        · cases h
        · rename_i v hv
          have hsk := ce_end_b (p := fun k => !decide (x k = 32)) q2
          have hwe := ce_end_b (p := fun k => !ce_let (x k)) hsk.2.1
          obtain ⟨⟨b, be⟩, a3, h⟩ := ce_bd_ok h
          cases h
          have hu : cd_und D c (S 1 t) = true := by
            cases hq : cd_und D c (S 1 t) with
            | true => rfl
            | false => rw [hq] at hg; simp at hg
          replace hsk : te ≤ ce_sk x n te ∧ ce_sk x n te ≤ n := ⟨hsk.1, hsk.2.1⟩
          replace hwe : ce_sk x n te ≤ ce_we x n (ce_sk x n te) ∧ ce_we x n (ce_sk x n te) ≤ n := ⟨hwe.1, hwe.2.1⟩
          unfold ce_pB at a3
          dsimp only at p2 q2 ⊢
          split at a3
          · rename_i h2
            obtain ⟨⟨b2, bs2, be2⟩, a4, a3⟩ := ce_bd_ok a3
            cases a3
            obtain ⟨l4, u4, p4, q4, -⟩ := ce_num_b hwe.2 a4
            dsimp only
            exact ⟨by omega, q4, ce_okP_H hP (by have := hP.1.1.2.2.1; omega) u1 u2 hu (ce_kw_b hv) (by omega) (fun h => absurd h2 h), rfl⟩
          · rename_i h2
            cases a3
            exact ⟨by omega, hwe.2, ce_okP_H hP (by have := hP.1.1.2.2.1; omega) u1 u2 hu (ce_kw_b hv) (by omega) (fun _ => rfl), rfl⟩
  · split at h
    · cases h
    · unfold ce_pL at h
      obtain ⟨⟨c, cs, ce⟩, a1, h⟩ := ce_bd_ok h
      obtain ⟨⟨t, ts, te⟩, a2, h⟩ := ce_bd_ok h
      cases h
      obtain ⟨l1, u1, p1, q1, -⟩ := ce_num_b he a1
      obtain ⟨l2, u2, p2, q2, -⟩ := ce_num_b q1 a2
      dsimp only at p2 q2 ⊢
      exact ⟨by omega, q2, ce_okP_L hP u1 u2, rfl⟩
  · unfold ce_pR at h
    obtain ⟨⟨t, ts, te⟩, a1, h⟩ := ce_bd_ok h
    dsimp only at h
    obtain ⟨l1, u1, p1, q1, -⟩ := ce_num_b he a1
    split at h
    · cases h
    · cases h
      exact ⟨by omega, q1, ce_okP_R hP u1, rfl⟩
theorem ce_pW_e (hs : s ≤ e) (he : e ≤ n) {f p : Nat} (h : ce_pW x n s e D S = .error (f, p)) : (1 ≤ f ∧ f ≤ 5) ∧ p ≤ n := by
  have num : ∀ {lo hi q}, q ≤ n → ce_num x n lo hi q = .error (f, p) → (1 ≤ f ∧ f ≤ 5) ∧ p ≤ n := fun hq h => by
    have := ce_num_e hq h
    omega
  unfold ce_pW at h
  split at h
  · cases h; omega
  · split at h
    · cases h; omega
    · unfold ce_pT at h
      rcases ce_bd_er h with h | ⟨⟨c, cs, ce⟩, a1, h⟩
      · exact num he h
      · have b1 := ce_num_b he a1
        dsimp only at h
        split at h
        · cases h; omega
        · rcases ce_bd_er h with h | ⟨⟨c2, cs2, ce2⟩, a2, h⟩
          · exact num b1.2.2.2.1 h
          · have b2 := ce_num_b b1.2.2.2.1 a2
            rcases ce_bd_er h with h | ⟨⟨c3, cs3, ce3⟩, a3, h⟩
            · exact num b2.2.2.2.1 h
            · have b3 := ce_num_b b2.2.2.2.1 a3
              rcases ce_bd_er h with h | ⟨⟨c4, cs4, ce4⟩, a4, h⟩
              · exact num b3.2.2.2.1 h
              · have b4 := ce_num_b b3.2.2.2.1 a4
                rcases ce_bd_er h with h | ⟨⟨c5, cs5, ce5⟩, a5, h⟩
                · exact num b4.2.2.2.1 h
                · cases h
  · split at h
    · cases h; omega
    · unfold ce_pC at h
      rcases ce_bd_er h with h | ⟨⟨c, cs, ce⟩, a1, h⟩
      · exact num he h
      · have b1 := ce_num_b he a1
        rcases ce_bd_er h with h | ⟨⟨c2, cs2, ce2⟩, a2, h⟩
        · exact num b1.2.2.2.1 h
        · have b2 := ce_num_b b1.2.2.2.1 a2
          rcases ce_bd_er h with h | ⟨⟨c3, cs3, ce3⟩, a3, h⟩
          · exact num b2.2.2.2.1 h
          · have b3 := ce_num_b b2.2.2.2.1 a3
            dsimp only at h
            split at h
            · cases h; omega
            · rcases ce_bd_er h with h | ⟨⟨c4, cs4, ce4⟩, a4, h⟩
              · exact num b3.2.2.2.1 h
              · have b4 := ce_num_b b3.2.2.2.1 a4
                rcases ce_bd_er h with h | ⟨⟨c5, cs5, ce5⟩, a5, h⟩
                · exact num b4.2.2.2.1 h
                · cases h
  · split at h
    · cases h; omega
    · unfold ce_pH at h
      rcases ce_bd_er h with h | ⟨⟨c, cs, ce⟩, a1, h⟩
      · exact num he h
      · have b1 := ce_num_b he a1
        rcases ce_bd_er h with h | ⟨⟨t, ts, te⟩, a2, h⟩
        · exact num b1.2.2.2.1 h
        · have b2 := ce_num_b b1.2.2.2.1 a2
          dsimp only at h
          have hsk : ce_sk x n te ≤ n := (ce_end_b (p := fun k => !decide (x k = 32)) b2.2.2.2.1).2.1
          have hwe : ce_we x n (ce_sk x n te) ≤ n := (ce_end_b (p := fun k => !ce_let (x k)) hsk).2.1
          split at h
          · cases h; omega
          · split at h
            · cases h; omega
            · rcases ce_bd_er h with h | ⟨⟨b, be⟩, a3, h⟩
              · unfold ce_pB at h
                split at h
                · rcases ce_bd_er h with h | ⟨⟨b2, bs2, be2⟩, a4, h⟩
                  · exact num hwe h
                  · cases h
                · cases h
              · cases h
  · split at h
    · cases h; omega
    · unfold ce_pL at h
      rcases ce_bd_er h with h | ⟨⟨c, cs, ce⟩, a1, h⟩
      · exact num he h
      · have b1 := ce_num_b he a1
        rcases ce_bd_er h with h | ⟨⟨c2, cs2, ce2⟩, a2, h⟩
        · exact num b1.2.2.2.1 h
        · cases h
  · unfold ce_pR at h
    rcases ce_bd_er h with h | ⟨⟨c, cs, ce⟩, a1, h⟩
    · exact num he h
    · have b1 := ce_num_b he a1
      dsimp only at h
      split at h
      · cases h; omega
      · cases h
/-- a clause -/
theorem ce_pc_ok (hP : ce_okP D S) (hq : q ≤ n) {z : Nat} {D1 : cd_D} {S1 : cd_S} (h : ce_pc x n q D S = .ok (z, D1, S1)) : ce_sk x n q < z ∧ z ≤ n ∧ ce_okP D1 S1 ∧ S1 0 3 = S 0 3 := by
  have hsk : ce_sk x n q ≤ n := (ce_end_b (p := fun k => !decide (x k = 32)) hq).2.1
  have hwe := ce_end_b (p := fun k => !ce_let (x k)) hsk
  replace hwe : ce_sk x n q ≤ ce_we x n (ce_sk x n q) ∧ ce_we x n (ce_sk x n q) ≤ n := ⟨hwe.1, hwe.2.1⟩
  unfold ce_pc at h
  obtain ⟨⟨e1, D2, S2⟩, a1, h⟩ := ce_bd_ok h
  obtain ⟨z2, a2, h⟩ := ce_bd_ok h
  cases h
  obtain ⟨c1, c2, c3, c4⟩ := ce_pW_ok hP hwe.1 hwe.2 a1
  have := ce_stop_b c2 a2
  exact ⟨by omega, this.2, c3, c4⟩
theorem ce_pc_e (hP : ce_okP D S) (hq : q ≤ n) {f p : Nat} (h : ce_pc x n q D S = .error (f, p)) : (1 ≤ f ∧ f ≤ 5) ∧ p ≤ n := by
  have hsk : ce_sk x n q ≤ n := (ce_end_b (p := fun k => !decide (x k = 32)) hq).2.1
  have hwe := ce_end_b (p := fun k => !ce_let (x k)) hsk
  replace hwe : ce_sk x n q ≤ ce_we x n (ce_sk x n q) ∧ ce_we x n (ce_sk x n q) ≤ n := ⟨hwe.1, hwe.2.1⟩
  unfold ce_pc at h
  rcases ce_bd_er h with h | ⟨⟨e1, D2, S2⟩, a1, h⟩
  · exact ce_pW_e hwe.1 hwe.2 h
  · obtain ⟨c1, c2, c3, c4⟩ := ce_pW_ok hP hwe.1 hwe.2 a1
    rcases ce_bd_er h with h | ⟨z2, a2, h⟩
    · have := ce_stop_e c2 h
      omega
    · cases h
theorem ce_pD_ok : ∀ (f : Nat) {q : Nat} {D : cd_D} {S : cd_S}, ce_okP D S → q ≤ n → (∀ {D1 S1}, ce_pD x n f q D S = .ok (D1, S1) → ce_okP D1 S1 ∧ S1 0 3 = S 0 3) ∧ ∀ {g p}, ce_pD x n f q D S = .error (g, p) → (1 ≤ g ∧ g ≤ 5) ∧ p ≤ n := by
  intro f
  induction f with
  | zero =>
    intro q D S hP hq
    refine ⟨fun h => ?_, fun h => ?_⟩
    · cases h; exact ⟨hP, rfl⟩
    · cases h
  | succ f ih =>
    intro q D S hP hq
    refine ⟨fun h => ?_, fun h => ?_⟩
    · unfold ce_pD at h
      split at h
      · obtain ⟨⟨e1, D2, S2⟩, a1, h⟩ := ce_bd_ok h
        obtain ⟨c1, c2, c3, c4⟩ := ce_pc_ok hP hq a1
        obtain ⟨d1, d2⟩ := (ih c3 c2).1 h
        exact ⟨d1, d2.trans c4⟩
      · cases h; exact ⟨hP, rfl⟩
    · unfold ce_pD at h
      split at h
      · rcases ce_bd_er h with h | ⟨⟨e1, D2, S2⟩, a1, h⟩
        · exact ce_pc_e hP hq h
        · obtain ⟨c1, c2, c3, c4⟩ := ce_pc_ok hP hq a1
          exact (ih c3 c2).2 h
      · cases h
/-- a new den, nothing told -/
def ce_D0 : cd_D := fun a k => if a = 0 ∧ k = 16 then 60 else if a = 0 ∧ k = 17 then 10 else 0
def ce_S0 (r : Nat) : cd_S := fun a k => if a = 0 ∧ k = 3 then r else 0
theorem ce_okP0 {r : Nat} (hr : r < 2 ^ 31) : ce_okP ce_D0 (ce_S0 r) := by
  refine ⟨⟨⟨by decide, by decide, by decide, by decide, by decide⟩, fun t ht => absurd ht (Nat.not_lt_zero t), fun t ht => absurd ht (Nat.not_lt_zero t), fun t ht => absurd ht (Nat.not_lt_zero t)⟩, ⟨⟨fun t ht => absurd ht (Nat.not_lt_zero t), (show (0 : Nat) < 1 by decide), (show (0 : Nat) < 1 by decide), fun t ht => absurd ht (Nat.not_lt_zero t)⟩, fun t ht => absurd ht (Nat.not_lt_zero t), fun t _ ht => absurd ht (Nat.not_lt_zero t), fun t ht => absurd ht (Nat.not_lt_zero t), ?_⟩, rfl, rfl, by decide, by decide⟩
  show (if (0 : Nat) = 0 ∧ (3 : Nat) = 3 then r else 0) < 2 ^ 31
  rw [if_pos ⟨rfl, rfl⟩]
  exact hr
end CFK
