/-! ===== the class: the least change ===== -/
theorem cf_fst_is {p : Nat → Bool} {n s : Nat} (hs : s < n) (h1 : p s = true) (h0 : ∀ j, j < s → p j = false) : ce_fst p n 0 = some s := by
  cases h : ce_fst p n 0 with
  | none =>
    have := ce_fst_none h s (Nat.zero_le _) (by omega)
    rw [h1] at this
    cases this
  | some k =>
    obtain ⟨_, g2, g3, g4⟩ := ce_fst_some h
    rcases Nat.lt_trichotomy k s with q | q | q
    · rw [h0 k q] at g3; cases g3
    · rw [q]
    · have := g4 s (Nat.zero_le _) q
      rw [h1] at this
      cases this
theorem cf_fst_no {p : Nat → Bool} {n : Nat} (h0 : ∀ j, j < n → p j = false) : ce_fst p n 0 = none := by
  cases h : ce_fst p n 0 with
  | none => rfl
  | some k =>
    obtain ⟨_, g2, g3, _⟩ := ce_fst_some h
    rw [h0 k (by omega)] at g3
    cases g3
theorem cf_pr_ch {p : Nat → Nat → Bool} : ∀ d i, match ce_pr p d i with
    | none => ∀ k j, i ≤ k → k < i + d → j < k → p k j = false
    | some x => i ≤ x.1 ∧ x.1 < i + d ∧ x.2 < x.1 ∧ p x.1 x.2 = true ∧ ∀ k j, i ≤ k → j < k → (k < x.1 ∨ k = x.1 ∧ j < x.2) → p k j = false := by
  intro d
  induction d with
  | zero => intro i k j h1 h2; omega
  | succ d ih =>
    intro i
    have e : ce_pr p (d + 1) i = match ce_fst (p i) i 0 with
      | some j => some (i, j)
      | none => ce_pr p d (i + 1) := rfl
    rw [e]
    cases hf : ce_fst (p i) i 0 with
    | some j =>
      obtain ⟨_, g2, g3, g4⟩ := ce_fst_some hf
      refine ⟨Nat.le_refl _, by show i < i + (d + 1); omega, by show j < i; omega, g3, fun k j' h1 h2 h3 => ?_⟩
      replace h3 : k < i ∨ k = i ∧ j' < j := h3
      rcases h3 with h3 | ⟨rfl, h3⟩
      · omega
      · exact g4 j' (Nat.zero_le _) h3
    | none =>
      have g := ce_fst_none hf
      have ih := ih (i + 1)
      cases hp : ce_pr p d (i + 1) with
      | none =>
        rw [hp] at ih
        intro k j h1 h2 h3
        by_cases hk : k = i
        · subst hk; exact g j (Nat.zero_le _) (by omega)
        · exact ih k j (by omega) (by omega) h3
      | some x =>
        rw [hp] at ih
        obtain ⟨i1, i2, i3, i4, i5⟩ := ih
        refine ⟨by omega, by omega, i3, i4, fun k j h1 h2 h3 => ?_⟩
        by_cases hk : k = i
        · subst hk; exact g j (Nat.zero_le _) (by omega)
        · exact i5 k j (by omega) h2 h3
theorem cf_cnt_pos {m n : Nat} (h : fa_cnt (fun k => m.testBit k) n ≠ 0) : ∃ k, k < n ∧ m.testBit k = true := by
  refine Classical.byContradiction (fun q => h ?_)
  have : ∀ i, i ≤ n → fa_cnt (fun k => m.testBit k) i = 0 := by
    intro i
    induction i with
    | zero => intro _; rfl
    | succ i ih =>
      intro hi
      rw [ce_cnt_s, ih (by omega)]
      cases hb : m.testBit i with
      | false => rfl
      | true => exact absurd ⟨i, by omega, hb⟩ q
  exact this n (Nat.le_refl _)
theorem cf_cnt1 {m n : Nat} (hm : m < 2 ^ n) (h : fa_cnt (fun k => m.testBit k) n = 1) : ∃ k, k < n ∧ m = 2 ^ k := by
  obtain ⟨k, hk, hb⟩ := cf_cnt_pos (m := m) (n := n) (by omega)
  have h1 := ce_cnt_flip hb n hk
  have h2 := ce_cnt_0 n (ce_xlt hm hk) (by omega)
  refine ⟨k, hk, ?_⟩
  have := ce_xor_xor (m := m) (k := k)
  rw [h2, Nat.zero_xor] at this
  exact this.symm
theorem cf_cnt2 {m n : Nat} (hm : m < 2 ^ n) (h : fa_cnt (fun k => m.testBit k) n = 2) : ∃ k j, k < n ∧ j < k ∧ m = 2 ^ k ||| 2 ^ j := by
  obtain ⟨k, hk, hb⟩ := cf_cnt_pos (m := m) (n := n) (by omega)
  have h1 := ce_cnt_flip hb n hk
  obtain ⟨j, hj, hmj⟩ := cf_cnt1 (ce_xlt hm hk) (by omega : fa_cnt (fun j => (m ^^^ 2 ^ k).testBit j) n = 1)
  have hkj : j ≠ k := fun q => by
    have : (m ^^^ 2 ^ k).testBit k = false := by rw [ce_xtb, hb, decide_eq_true rfl]; rfl
    rw [hmj, q, ce_2tb, decide_eq_true rfl] at this
    cases this
  have e : m = 2 ^ k ||| 2 ^ j := by
    apply Nat.eq_of_testBit_eq
    intro i
    have hi : (m ^^^ 2 ^ k).testBit i = (2 ^ j).testBit i := by rw [hmj]
    rw [ce_xtb, ce_2tb] at hi
    rw [Nat.testBit_or, ce_2tb, ce_2tb, ← hi]
    by_cases hki : k = i
    · subst hki
      rw [hb, decide_eq_true rfl]
      rfl
    · rw [decide_eq_false hki, Bool.xor_false, Bool.false_or]
  rcases Nat.lt_or_ge j k with q | q
  · exact ⟨k, j, hk, q, e⟩
  · exact ⟨j, k, hj, by omega, by rw [e, Nat.or_comm]⟩
theorem cf_cnt_1 {k n : Nat} (hk : k < n) : fa_cnt (fun i => (2 ^ k).testBit i) n = 1 := by
  have hb : (2 ^ k).testBit k = true := by rw [ce_2tb, decide_eq_true rfl]
  have h1 := ce_cnt_flip hb n hk
  have h0 : ∀ i, fa_cnt (fun j => (2 ^ k ^^^ 2 ^ k).testBit j) i = 0 := by
    intro i
    induction i with
    | zero => rfl
    | succ i ih => rw [ce_cnt_s, ih, Nat.xor_self, Nat.zero_testBit]; rfl
  have := h0 n
  omega
theorem cf_or2 {k j : Nat} (h : j < k) : 2 ^ k ||| 2 ^ j = 2 ^ k + 2 ^ j := by
  have := Nat.two_pow_add_eq_or_of_lt (b := 2 ^ j) (i := k) (Nat.pow_lt_pow_right (by decide) h) 1
  rw [Nat.mul_one] at this
  exact this.symm
theorem cf_cnt_2 {k j n : Nat} (hk : k < n) (hj : j < k) : fa_cnt (fun i => (2 ^ k ||| 2 ^ j).testBit i) n = 2 := by
  have hb : (2 ^ k ||| 2 ^ j).testBit k = true := by rw [Nat.testBit_or, ce_2tb, decide_eq_true rfl]; rfl
  have h1 := ce_cnt_flip hb n hk
  have e : (2 ^ k ||| 2 ^ j) ^^^ 2 ^ k = 2 ^ j := by
    apply Nat.eq_of_testBit_eq
    intro i
    rw [ce_xtb, Nat.testBit_or, ce_2tb, ce_2tb]
    by_cases hki : k = i
    · subst hki
      rw [decide_eq_true rfl, decide_eq_false (show ¬ j = k by omega)]
      rfl
    · rw [decide_eq_false hki, Bool.false_or, Bool.xor_false]
  rw [e, cf_cnt_1 (by omega)] at h1
  exact h1.symm
theorem cf_sub {D : cd_D} {S : cd_S} {m : Nat} : (ce_an m (S 0 2) = 0) ↔ ∀ k, m.testBit k = true → cd_held S k = true := ce_an0
/-- the sets that are asked -/
def cf_cs (D : cd_D) (S : cd_S) (t b q : Nat) (m : Nat) : Bool := decide (fa_cnt (fun k => m.testBit k) (D 0 2) = q) && (decide (ce_an m (S 0 2) = 0) && ce_btd D S t b m)
def cf_ch (D : cd_D) (S : cd_S) (t b : Nat) : Nat → Nat → Option Nat
  | 0, _ => none
  | f + 1, q => match ce_fst (cf_cs D S t b q) (2 ^ D 0 2) 0 with
    | some s => some s
    | none => cf_ch D S t b f (q + 1)
theorem cf_td0 {S : cd_S} : ce_td S 0 = S := by
  funext r k
  show (bif Nat.beq r 2 then (bif (0 : Nat).testBit k then 3 else S 2 k) else bif Nat.beq r 3 then (bif (0 : Nat).testBit k then 0 else S 3 k) else S r k) = S r k
  rw [Nat.zero_testBit]
  cases h2 : Nat.beq r 2 with
  | true => rw [Nat.eq_of_beq_eq_true h2]; rfl
  | false =>
    cases h3 : Nat.beq r 3 with
    | true => rw [Nat.eq_of_beq_eq_true h3]; rfl
    | false => rfl
theorem cf_ch_eq {D : cd_D} {S : cd_S} {t b : Nat} : cf_ch D S t b 3 0 = ce_chA D S t b := by
  have hp0 : 0 < 2 ^ D 0 2 := ce_2pos
  have hz : ∀ i, fa_cnt (fun k => (0 : Nat).testBit k) i = 0 := by
    intro i
    induction i with
    | zero => rfl
    | succ i ih => rw [ce_cnt_s, ih, Nat.zero_testBit]; rfl
  have hb0 : ce_btd D S t b 0 = (ce_next D S (some t) b).isNone := by
    unfold ce_btd
    rw [cf_td0]
  have han0 : ce_an 0 (S 0 2) = 0 := Nat.zero_and _
  -- no hold
  have q0 : ce_fst (cf_cs D S t b 0) (2 ^ D 0 2) 0 = if (ce_next D S (some t) b).isNone then some 0 else none := by
    cases hn : (ce_next D S (some t) b).isNone with
    | true =>
      rw [if_pos rfl]
      refine cf_fst_is hp0 ?_ (fun j hj => by omega)
      unfold cf_cs
      rw [hz, decide_eq_true rfl, decide_eq_true han0, hb0, hn]
      rfl
    | false =>
      rw [if_neg (by decide)]
      refine cf_fst_no (fun j hj => ?_)
      unfold cf_cs
      by_cases hc : fa_cnt (fun k => j.testBit k) (D 0 2) = 0
      · have := ce_cnt_0 _ hj hc
        subst this
        rw [hb0, hn, Bool.and_false, Bool.and_false]
      · rw [decide_eq_false hc, Bool.false_and]
  -- one hold
  have held1 : ∀ k, (ce_an (2 ^ k) (S 0 2) = 0) ↔ cd_held S k = true := fun k => by
    rw [cf_sub (D := D)]
    refine ⟨fun h => h k (by rw [ce_2tb, decide_eq_true rfl]), fun h i hi => ?_⟩
    rw [ce_2tb, decide_eq_true_eq] at hi
    rw [← hi]; exact h
  have c1 : ∀ k, k < D 0 2 → cf_cs D S t b 1 (2 ^ k) = ce_c1 D S t b k := fun k hk => by
    unfold cf_cs ce_c1
    rw [cf_cnt_1 hk, decide_eq_true rfl, Bool.true_and]
    cases hh : cd_held S k with
    | true => rw [decide_eq_true ((held1 k).mpr hh)]
    | false => rw [decide_eq_false (fun q => by rw [(held1 k).mp q] at hh; cases hh)]
  have q1 : ce_fst (cf_cs D S t b 1) (2 ^ D 0 2) 0 = (ce_fst (ce_c1 D S t b) (D 0 2) 0).map (fun k => 2 ^ k) := by
    cases hf : ce_fst (ce_c1 D S t b) (D 0 2) 0 with
    | none =>
      refine cf_fst_no (fun m hm => ?_)
      cases hq : cf_cs D S t b 1 m with
      | false => rfl
      | true =>
        have hc : fa_cnt (fun k => m.testBit k) (D 0 2) = 1 := by
          unfold cf_cs at hq
          rw [Bool.and_eq_true, decide_eq_true_eq] at hq
          exact hq.1
        obtain ⟨k, hk, rfl⟩ := cf_cnt1 hm hc
        rw [c1 k hk, ce_fst_none hf k (Nat.zero_le _) (by omega)] at hq
        cases hq
    | some k =>
      obtain ⟨_, g2, g3, g4⟩ := ce_fst_some hf
      have hk : k < D 0 2 := by omega
      refine cf_fst_is (Nat.pow_lt_pow_right (by decide) hk) ((c1 k hk).trans g3) (fun m hm => ?_)
      cases hq : cf_cs D S t b 1 m with
      | false => rfl
      | true =>
        have hc : fa_cnt (fun k => m.testBit k) (D 0 2) = 1 := by
          unfold cf_cs at hq
          rw [Bool.and_eq_true, decide_eq_true_eq] at hq
          exact hq.1
        obtain ⟨k', hk', rfl⟩ := cf_cnt1 (Nat.lt_trans hm (Nat.pow_lt_pow_right (by decide) hk)) hc
        have hlt : k' < k := (Nat.pow_lt_pow_iff_right (by decide)).mp hm
        rw [c1 k' hk', g4 k' (Nat.zero_le _) hlt] at hq
        cases hq
  -- two holds
  have held2 : ∀ k j, (ce_an (2 ^ k ||| 2 ^ j) (S 0 2) = 0) ↔ (cd_held S k = true ∧ cd_held S j = true) := fun k j => by
    rw [cf_sub (D := D)]
    refine ⟨fun h => ⟨h k (by rw [Nat.testBit_or, ce_2tb, decide_eq_true rfl]; rfl), h j (by rw [Nat.testBit_or, ce_2tb, ce_2tb, decide_eq_true (rfl : j = j), Bool.or_true])⟩, fun h i hi => ?_⟩
    rw [Nat.testBit_or, ce_2tb, ce_2tb, Bool.or_eq_true, decide_eq_true_eq, decide_eq_true_eq] at hi
    rcases hi with hi | hi
    · rw [← hi]; exact h.1
    · rw [← hi]; exact h.2
  have c2 : ∀ k j, k < D 0 2 → j < k → cf_cs D S t b 2 (2 ^ k ||| 2 ^ j) = ce_c2 D S t b k j := fun k j hk hj => by
    unfold cf_cs ce_c2
    rw [cf_cnt_2 hk hj, decide_eq_true rfl, Bool.true_and]
    cases hh : cd_held S k with
    | true =>
      cases hh2 : cd_held S j with
      | true => rw [decide_eq_true ((held2 k j).mpr ⟨hh, hh2⟩)]; rfl
      | false => rw [decide_eq_false (fun q => by rw [((held2 k j).mp q).2] at hh2; cases hh2)]; rfl
    | false => rw [decide_eq_false (fun q => by rw [((held2 k j).mp q).1] at hh; cases hh)]; rfl
  have q2 : ce_fst (cf_cs D S t b 2) (2 ^ D 0 2) 0 = (ce_pr (ce_c2 D S t b) (D 0 2) 0).map (fun x => 2 ^ x.1 ||| 2 ^ x.2) := by
    have ch := cf_pr_ch (p := ce_c2 D S t b) (D 0 2) 0
    cases hf : ce_pr (ce_c2 D S t b) (D 0 2) 0 with
    | none =>
      rw [hf] at ch
      refine cf_fst_no (fun m hm => ?_)
      cases hq : cf_cs D S t b 2 m with
      | false => rfl
      | true =>
        have hc : fa_cnt (fun k => m.testBit k) (D 0 2) = 2 := by
          unfold cf_cs at hq
          rw [Bool.and_eq_true, decide_eq_true_eq] at hq
          exact hq.1
        obtain ⟨k, j, hk, hj, rfl⟩ := cf_cnt2 hm hc
        rw [c2 k j hk hj, ch k j (Nat.zero_le _) (by omega) hj] at hq
        cases hq
    | some x =>
      rw [hf] at ch
      obtain ⟨_, g2, g3, g4, g5⟩ := ch
      obtain ⟨k, j⟩ := x
      replace g3 : j < k := g3
      have hk : k < D 0 2 := by replace g2 : k < 0 + D 0 2 := g2; omega
      have hkk : 2 ^ k < 2 ^ D 0 2 := Nat.pow_lt_pow_right (by decide) hk
      have hjk : 2 ^ j < 2 ^ D 0 2 := Nat.pow_lt_pow_right (by decide) (by omega)
      refine cf_fst_is (ce_or_lt hkk hjk) ((c2 k j hk g3).trans g4) (fun m hm => ?_)
      cases hq : cf_cs D S t b 2 m with
      | false => rfl
      | true =>
        have hc : fa_cnt (fun k => m.testBit k) (D 0 2) = 2 := by
          unfold cf_cs at hq
          rw [Bool.and_eq_true, decide_eq_true_eq] at hq
          exact hq.1
        obtain ⟨k', j', hk', hj', rfl⟩ := cf_cnt2 (Nat.lt_trans hm (ce_or_lt hkk hjk)) hc
        replace hm : 2 ^ k' ||| 2 ^ j' < 2 ^ k ||| 2 ^ j := hm
        rw [cf_or2 hj', cf_or2 g3] at hm
        have p1 : 2 ^ j < 2 ^ k := Nat.pow_lt_pow_right (by decide) g3
        have hlex : k' < k ∨ k' = k ∧ j' < j := by
          rcases Nat.lt_trichotomy k' k with h | h | h
          · exact Or.inl h
          · subst h
            exact Or.inr ⟨rfl, (Nat.pow_lt_pow_iff_right (a := 2) (by decide)).mp (by omega)⟩
          · have : 2 ^ (k + 1) ≤ 2 ^ k' := Nat.pow_le_pow_right (by decide) h
            rw [Nat.pow_succ] at this
            generalize 2 ^ k = A at *
            generalize 2 ^ k' = B at *
            generalize 2 ^ j = C at *
            generalize 2 ^ j' = E at *
            exfalso
            omega
        rw [c2 k' j' hk' hj', g5 k' j' (Nat.zero_le _) hj' hlex] at hq
        cases hq
  unfold ce_chA
  show (match ce_fst (cf_cs D S t b 0) (2 ^ D 0 2) 0 with
    | some s => some s
    | none => match ce_fst (cf_cs D S t b 1) (2 ^ D 0 2) 0 with
      | some s => some s
      | none => match ce_fst (cf_cs D S t b 2) (2 ^ D 0 2) 0 with
        | some s => some s
        | none => none) = _
  rw [q0, q1, q2]
  cases (ce_next D S (some t) b).isNone with
  | true => rfl
  | false =>
    cases ce_fst (ce_c1 D S t b) (D 0 2) 0 with
    | some k => rfl
    | none =>
      cases ce_pr (ce_c2 D S t b) (D 0 2) 0 with
      | some x => rfl
      | none => rfl
section CGV
variable {L : Nat} {w : Bool} {I : Nat → Nat → Int32} {J : Nat → Nat → Int64} {D : cd_D} {S : cd_S}
variable {Y : ce_Y}
theorem cf_td_ok (hT : ce_okT D S) (m : Nat) : cd_okS D (ce_td S m) ∧ ce_inj D (ce_td S m) := by
  refine ⟨⟨hT.1.1, hT.1.2.1, hT.1.2.2.1, fun k hk => ?_⟩, hT.2.2.1⟩
  have := hT.1.2.2.2 k hk
  show (bif m.testBit k then 3 else S 2 k) ≤ 4 ∧ (bif m.testBit k then 0 else S 3 k) ≤ 99
  cases m.testBit k with
  | true => exact ⟨show (3 : Nat) ≤ 4 by decide, show (0 : Nat) ≤ 99 by decide⟩
  | false => exact this
theorem cp_121 (hK : ce_ok D S Y) (hM : cf_M D S Y w I J) {m t b : Nat} (hm : m < 2 ^ D 0 2) (ht : t < D 0 0) (hb : b < 1000) : cw L w (cd_c 121 [.ref 21, .ref 5, .ref (cd_ple w), .ref 45, .int (nI m), .int (nI t), .int (nI b)] (cd_mm L w I J)) (fun v I1 J1 => v = some (.int (cd_tf (ce_btd D S t b m))) ∧ cf_M D S Y w I1 J1 ∧ cf_fr I I1) := by
  have hp := cf_ple w
  have hU := hK.2.2.1.2.2.2.1
  have h8 := hK.1.1.1
  have h12 := hK.1.1.2.2.1
  have hpw := ce_pw h12
  refine cw_c (l := [.ref 21, .ref 5, .ref (cd_ple w), .ref 45, .int (nI m), .int (nI t), .int (nI b), .null]) (by cases w <;> rfl) (by cases w <;> rfl) ?_
  refine cw_m (fun _ => cd_s121_0 hp) ?_
  refine cw_cv (cw_mono (cp_39 (s := 22) (u := 45) (by decide) (by decide) (by decide)) ?_)
  intro v I1 J1 ⟨hv, hJ, f1, hc⟩
  have hJ := hJ.symm
  subst hJ
  refine ⟨hv, ?_⟩
  have Q1 := hc D S h8 h12 hM.1.2.1
  refine cw_m (fun _ => cd_s121_4 hp) ?_
  have go := cw_up (L := L) (w := w) (Q := fun v I1 J1 => v = some (.int (cd_tf (ce_btd D S t b m))) ∧ cf_M D S Y w I1 J1 ∧ cf_fr I I1) (fun k (I3 : Nat → Nat → Int32) => cd_go 121 6 [.ref 21, .ref 5, .ref (cd_ple w), .ref 45, .int (nI m), .int (nI t), .int (nI b), .int (nI k)] [] (cd_mm L w I3 J)) (fun k I3 => (∀ a j, ¬ (a = 24 ∨ a = 25) → I3 a j = I1 a j) ∧ (∀ j, j < k → I3 24 j = nI (ce_td S m 2 j) ∧ I3 25 j = nI (ce_td S m 3 j)) ∧ ∀ j, k ≤ j → I3 24 j = I1 24 j ∧ I3 25 j = I1 25 j) (D 0 2) ?_ ?_ 0 I1 (Nat.zero_le _) ⟨fun _ _ _ => rfl, fun j hj => by omega, fun _ _ => ⟨rfl, rfl⟩⟩
  · exact go
  · intro I3 ⟨f3, g3, _⟩
    have f3' : ∀ a j, ¬ (22 ≤ a ∧ a ≤ 25) → I3 a j = I a j := fun a j hn => (f3 a j (by omega)).trans (f1 a j (by omega))
    have M3 : cf_M D S Y w I3 J := hM.of hK (fun a k hn => f3' a k (by omega))
    have Q3 : cf_S D (ce_td S m) 22 I3 := ⟨⟨(f3 _ _ (by omega)).trans Q1.1.1, (f3 _ _ (by omega)).trans Q1.1.2⟩, fun t ht => (f3 _ _ (by omega)).trans (Q1.2.1 t ht), fun k hk => g3 k hk⟩
    obtain ⟨ok1, ok2⟩ := cf_td_ok hK.2.1 m
    refine cw_m (fun _ => cd_s121_6 hp) ?_
    rw [M3.1.1.1.2.2.1, if_neg (fun q => Int32.lt_irrefl q)]
    refine cw_ci (cw_mono (cp_79 (o := some t) (b := b) hp (Or.inl rfl) hK.1 ok1 ok2 M3.1.1 Q3 M3.2 (fun u x => by cases x; omega) (by omega)) ?_)
    intro v I4 J4 ⟨fJ4, f4, C4, ev⟩
    have M4 : cf_M D S Y w I4 J4 := ⟨M3.1.of hU (fun a k _ hn => f4 a k (by unfold cf_scr at hn; omega)) fJ4, C4⟩
    have fr4 : cf_fr I I4 := fun a k x => (f4 a k (by omega)).trans (f3' a k (by omega))
    unfold ce_btd
    cases hn : ce_next D (ce_td S m) (some t) b with
    | none =>
      rw [hn] at ev
      refine ⟨_, ev, ?_⟩
      refine cw_m (fun _ => cd_s121_31 hp) ?_
      rw [if_pos (show nI 1 &&& 1 = nI 1 by decide)]
      exact cw_ret ⟨rfl, M4, fr4⟩
    | some e =>
      rw [hn] at ev
      refine ⟨_, ev.1, ?_⟩
      refine cw_m (fun _ => cd_s121_31 hp) ?_
      rw [if_pos (show nI 0 &&& 1 = nI 0 by decide)]
      exact cw_ret ⟨rfl, M4, fr4⟩
  · intro k I3 hk ⟨f3, g3, k3⟩ K
    have f3' : ∀ a j, ¬ (22 ≤ a ∧ a ≤ 25) → I3 a j = I a j := fun a j hn => (f3 a j (by omega)).trans (f1 a j (by omega))
    refine cw_m (fun _ => cd_s121_6 hp) ?_
    rw [f3' _ _ (by omega), hM.1.1.1.2.2.1, if_pos (nI_lt hk (by omega))]
    have hb := nx_bit (k := m) (j := k) (by omega) (by omega)
    have e2 : ce_td S m 2 k = bif m.testBit k then 3 else S 2 k := rfl
    have e3 : ce_td S m 3 k = bif m.testBit k then 0 else S 3 k := rfl
    cases hu : m.testBit k with
    | false =>
      rw [if_pos (hb.mpr hu)]
      refine cw_m (fun _ => cd_s121_22 hp) ?_
      rw [nI_1]
      refine K I3 ⟨f3, fun j hj => ?_, fun j hj => k3 j (by omega)⟩
      by_cases hjk : j = k
      · subst hjk
        obtain ⟨k31, k32⟩ := k3 j (Nat.le_refl _)
        rw [k31, k32, e2, e3, hu]
        exact Q1.2.2 j hk
      · exact g3 j (by omega)
    | true =>
      rw [if_neg (fun q => by rw [hb.mp q] at hu; cases hu), cp_32 (Or.inl rfl) (by omega), cw_bv]
      refine cw_m (fun _ => cd_s121_22 hp) ?_
      rw [nI_1]
      refine K (cd_up (cd_up I3 24 k 3) 25 k 0) ⟨fun a j hn => ?_, fun j hj => ?_, fun j hj => ?_⟩
      · rw [cd_up_a (by omega), cd_up_a (by omega)]
        exact f3 a j hn
      · by_cases hjk : j = k
        · subst hjk
          rw [cd_up_a (by decide), cd_up_s, cd_up_s, e2, e3, hu]
          exact ⟨rfl, rfl⟩
        · rw [cd_up_a (by decide), cd_up_k hjk, cd_up_k hjk, cd_up_a (by decide)]
          exact g3 j (by omega)
      · rw [cd_up_a (by decide), cd_up_k (by omega), cd_up_k (by omega), cd_up_a (by decide)]
        exact k3 j (by omega)
theorem cp_122 (hK : ce_ok D S Y) (hM : cf_M D S Y w I J) {t b : Nat} (ht : t < D 0 0) (hb : b < 1000) : cw L w (cd_c 122 [.ref 21, .ref 5, .ref (cd_ple w), .ref 45, .int (nI t), .int (nI b)] (cd_mm L w I J)) (fun v I1 J1 => v = some (.int (cd_oi (ce_chA D S t b))) ∧ cf_M D S Y w I1 J1 ∧ cf_fr I I1) := by
  have hp := cf_ple w
  have h8 := hK.1.1.1
  have h12 := hK.1.1.2.2.1
  have hpw := ce_pw h12
  rw [← cf_ch_eq]
  refine cw_c (l := [.ref 21, .ref 5, .ref (cd_ple w), .ref 45, .int (nI t), .int (nI b), .null, .null, .null]) (by cases w <;> rfl) (by cases w <;> rfl) ?_
  refine cw_m (fun _ => cd_s122_0 hp) ?_
  refine cw_up (L := L) (w := w) (Q := fun v I1 J1 => v = some (.int (cd_oi (cf_ch D S t b 3 0))) ∧ cf_M D S Y w I1 J1 ∧ cf_fr I I1) (fun q (y : (Nat → Nat → Int32) × (Nat → Nat → Int64) × Value × Value) => cd_go 122 2 [.ref 21, .ref 5, .ref (cd_ple w), .ref 45, .int (nI t), .int (nI b), .int (nI q), y.2.2.1, y.2.2.2] [] (cd_mm L w y.1 y.2.1)) (fun q y => cf_M D S Y w y.1 y.2.1 ∧ cf_fr I y.1 ∧ cf_ch D S t b 3 0 = cf_ch D S t b (3 - q) q) 3 ?_ ?_ 0 (I, J, .null, .null) (Nat.zero_le _) ⟨hM, cf_fr.rf, rfl⟩
  · intro ⟨I1, J1, v7, v8⟩ ⟨M1, f1, e⟩
    show cw L w (cd_go 122 2 _ _ (cd_mm L w I1 J1)) _
    refine cw_m (fun _ => cd_s122_2 hp) ?_
    rw [if_pos (show (2 : Int32) < nI 3 by decide)]
    exact cw_ret ⟨by rw [e]; rfl, M1, f1⟩
  · intro q ⟨I1, J1, v7, v8⟩ hq ⟨M1, f1, e⟩ K
    replace M1 : cf_M D S Y w I1 J1 := M1
    replace f1 : cf_fr I I1 := f1
    replace e : cf_ch D S t b 3 0 = cf_ch D S t b (3 - q) q := e
    have e1 : cf_ch D S t b (3 - q) q = match ce_fst (cf_cs D S t b q) (2 ^ D 0 2) 0 with
      | some s => some s
      | none => cf_ch D S t b (3 - (q + 1)) (q + 1) := by
      rw [show 3 - q = (3 - (q + 1)) + 1 by omega]
      rfl
    rw [e1] at e
    show cw L w (cd_go 122 2 [.ref 21, .ref 5, .ref (cd_ple w), .ref 45, .int (nI t), .int (nI b), .int (nI q), v7, v8] [] (cd_mm L w I1 J1)) _
    refine cw_m (fun _ => cd_s122_2 hp) ?_
    rw [if_neg (show ¬ (2 : Int32) < nI q from fun x => by
      have := (nI_ltI (a := 2) (by decide) (by omega)).mp x
      omega)]
    refine cw_up (L := L) (w := w) (Q := fun v I1 J1 => v = some (.int (cd_oi (cf_ch D S t b 3 0))) ∧ cf_M D S Y w I1 J1 ∧ cf_fr I I1) (fun m (y : (Nat → Nat → Int32) × (Nat → Nat → Int64) × Value) => cd_go 122 7 [.ref 21, .ref 5, .ref (cd_ple w), .ref 45, .int (nI t), .int (nI b), .int (nI q), .int (nI m), y.2.2] [] (cd_mm L w y.1 y.2.1)) (fun m y => cf_M D S Y w y.1 y.2.1 ∧ cf_fr I y.1 ∧ ce_fst (cf_cs D S t b q) (2 ^ D 0 2) 0 = ce_fst (cf_cs D S t b q) (2 ^ D 0 2 - m) m) (2 ^ D 0 2) ?_ ?_ 0 (I1, J1, v8) (Nat.zero_le _) ⟨M1, f1, rfl⟩
    · intro ⟨I2, J2, u8⟩ ⟨M2, f2, he⟩
      replace M2 : cf_M D S Y w I2 J2 := M2
      show cw L w (cd_go 122 7 _ _ (cd_mm L w I2 J2)) _
      refine cw_m (fun _ => cd_s122_7 hp) ?_
      rw [M2.1.1.1.2.2.1, show (1 : Int32) <<< (nI (D 0 2) &&& 31) = nI (2 ^ D 0 2) from cw_sh1 (by omega), if_neg (fun q => Int32.lt_irrefl q), nI_1]
      rw [he, Nat.sub_self] at e
      exact K (I2, J2, _, u8) ⟨M2, f2, e⟩
    · intro m ⟨I2, J2, u8⟩ hm ⟨M2, f2, he⟩ K2
      replace M2 : cf_M D S Y w I2 J2 := M2
      replace f2 : cf_fr I I2 := f2
      rw [ce_fst_st hm] at he
      have ecs : cf_cs D S t b q m = (decide (fa_cnt (fun k => m.testBit k) (D 0 2) = q) && (decide (ce_an m (S 0 2) = 0) && ce_btd D S t b m)) := rfl
      have hcl := fa_cnt_le (fun k => m.testBit k) (D 0 2)
      have han := ce_an_le m (S 0 2)
      show cw L w (cd_go 122 7 [.ref 21, .ref 5, .ref (cd_ple w), .ref 45, .int (nI t), .int (nI b), .int (nI q), .int (nI m), u8] [] (cd_mm L w I2 J2)) _
      refine cw_m (fun _ => cd_s122_7 hp) ?_
      rw [M2.1.1.1.2.2.1, show (1 : Int32) <<< (nI (D 0 2) &&& 31) = nI (2 ^ D 0 2) from cw_sh1 (by omega), if_pos (nI_lt hm (by omega)), cp_47 (by omega), cf_cnt_low hm h12, cw_bi]
      refine cw_m (fun _ => cd_s122_15 hp) ?_
      rw [nI_1, M2.1.2.1.1.2, show (-1 : Int32) = zI (-1) from rfl, cw_andn]
      by_cases hc : fa_cnt (fun k => m.testBit k) (D 0 2) = q
      · rw [if_pos (by rw [hc])]
        by_cases hs : ce_an m (S 0 2) = 0
        · rw [if_pos (show nI (ce_an m (S 0 2)) = 0 by rw [hs]; rfl)]
          refine cw_ci (cw_mono (cp_121 hK M2 hm ht hb) ?_)
          intro v I3 J3 ⟨hv, M3, f3⟩
          refine ⟨_, hv, ?_⟩
          refine cw_m (fun _ => cd_s122_38 hp) ?_
          rw [nI_1]
          cases hbt : ce_btd D S t b m with
          | false =>
            rw [if_pos (show cd_tf false = 0 from rfl)]
            exact K2 (I3, J3, _) ⟨M3, f2.tr f3, by rw [he, ecs, hbt, Bool.and_false, Bool.and_false, if_neg (by decide)]⟩
          | true =>
            rw [if_neg (show ¬ cd_tf true = 0 by decide)]
            rw [ecs, decide_eq_true hc, decide_eq_true hs, hbt, Bool.true_and, Bool.true_and, if_pos rfl] at he
            rw [he] at e
            exact cw_ret ⟨by rw [e]; rfl, M3, f2.tr f3⟩
        · rw [if_neg (show ¬ nI (ce_an m (S 0 2)) = 0 from fun x => hs ((nI_eq (b := 0) (by omega) (by decide)).mp x))]
          exact K2 (I2, J2, _) ⟨M2, f2, by rw [he, ecs, decide_eq_false hs, Bool.false_and, Bool.and_false, if_neg (by decide)]⟩
      · rw [if_neg (fun x => hc ((nI_eq (by omega) (by omega)).mp x))]
        exact K2 (I2, J2, _) ⟨M2, f2, by rw [he, ecs, decide_eq_false hc, Bool.false_and, if_neg (by decide)]⟩
theorem cp_123n (hK : ce_ok D S Y) (hM : cf_M D S Y w I J) {x y : Int32} (hx : ce_ix x (D 0 0) = false) : cw L w (cd_c 123 [.ref 2, .int x, .int y] (cd_mm L w I J)) (cf_post (.int (-1001)) D S Y w I) := by
  refine cw_c (l := [_, _, _]) rfl rfl ?_
  refine cw_m (fun _ => cd_s123_0) ?_
  rw [cp_49 hM.1.1 hK.1, cw_bi, hx]
  refine cw_m (fun _ => cd_s123_3) ?_
  rw [if_pos (show cd_tf false = 0 from rfl)]
  exact cw_ret ⟨rfl, hM, cf_fr.rf⟩
theorem cp_123o (hK : ce_ok D S Y) (hM : cf_M D S Y w I J) {x y : Int32} (hx : ce_ix x (D 0 0) = true) (hy : ce_ix y 1000 = false) : cw L w (cd_c 123 [.ref 2, .int x, .int y] (cd_mm L w I J)) (cf_post (.int (-1002)) D S Y w I) := by
  refine cw_c (l := [_, _, _]) rfl rfl ?_
  refine cw_m (fun _ => cd_s123_0) ?_
  rw [cp_49 hM.1.1 hK.1, cw_bi, hx]
  refine cw_m (fun _ => cd_s123_3) ?_
  rw [if_neg (show ¬ cd_tf true = 0 by decide), cp_74, cw_bi, hy]
  refine cw_m (fun _ => cd_s123_8) ?_
  rw [if_pos (show cd_tf false = 0 from rfl)]
  exact cw_ret ⟨rfl, hM, cf_fr.rf⟩
theorem cp_123 (hK : ce_ok D S Y) (hM : cf_M D S Y w I J) {t b : Nat} (ht : t < D 0 0) (hb : b < 1000) : cw L w (cd_c 123 [.ref 2, .int (nI t), .int (nI b)] (cd_mm L w I J)) (cf_post (.int (cd_oi (ce_chA D S t b))) D S Y w I) := by
  have h8 := hK.1.1.1
  refine cw_c (l := [_, _, _]) rfl rfl ?_
  refine cw_m (fun _ => cd_s123_0) ?_
  rw [cp_49 hM.1.1 hK.1, cw_bi, ce_ix_n ht (by omega)]
  refine cw_m (fun _ => cd_s123_3) ?_
  rw [if_neg (show ¬ cd_tf true = 0 by decide), cp_74, cw_bi, ce_ix_n hb (by decide)]
  refine cw_m (fun _ => cd_s123_8) ?_
  rw [if_neg (show ¬ cd_tf true = 0 by decide)]
  refine cw_ci (cw_mono (cp_122 hK hM ht hb) ?_)
  intro v I1 J1 ⟨hv, M1, f1⟩
  refine ⟨_, hv, ?_⟩
  refine cw_m (fun _ => cd_s123_20) ?_
  exact cw_ret ⟨rfl, M1, f1⟩
end CGV
