/-! ===== the class: orders ===== -/
section CGY
variable {L : Nat} {w : Bool} {I : Nat → Nat → Int32} {J : Nat → Nat → Int64} {D : cd_D} {S : cd_S}
variable {Y : ce_Y} {mem : Nat → Nat} {c : Nat} {F : Nat → Bool}
theorem cp_115 (hc : c ≤ 7) (h5 : I 21 5 = nI c) {d : Nat} (hd : d < 2 ^ c) (hg : ∀ x, d < x → x < 2 ^ c → I 29 x = cd_tf (cf_gd S F mem (D 0 2) c x)) : cd_c 115 [.ref 21, .int (nI d)] (cd_mm L w I J) = some (some (.int (cd_oi (cf_ni S F mem (D 0 2) c d))), cd_mm L w I J) := by
  have hpw : 2 ^ c ≤ 128 := Nat.le_trans (Nat.pow_le_pow_right (by decide) hc) (by decide)
  refine cw_eq (cw_c (l := [_, _, _]) rfl rfl ?_)
  refine cw_m (fun _ => cd_s115_0) ?_
  have go := cw_up (L := L) (w := w) (Q := fun v2 I2 J2 => v2 = some (.int (cd_oi (cf_ni S F mem (D 0 2) c d))) ∧ I2 = I ∧ J2 = J) (fun i (_ : Unit) => cd_go 115 2 [.ref 21, .int (nI d), .int (nI i)] [] (cd_mm L w I J)) (fun i _ => cf_ni S F mem (D 0 2) c d = ce_fst (fun i => !d.testBit i && cf_gd S F mem (D 0 2) c (d ||| 2 ^ i)) (c - i) i) c ?_ ?_ 0 () (Nat.zero_le _) rfl
  · exact go
  · intro _ he
    refine cw_m (fun _ => cd_s115_2) ?_
    rw [h5, if_neg (fun q => Int32.lt_irrefl q), he, Nat.sub_self]
    exact cw_ret ⟨rfl, rfl, rfl⟩
  · intro i _ hi he K
    rw [ce_fst_st hi] at he
    have hb := nx_bit (k := d) (j := i) (by omega) (by omega)
    refine cw_m (fun _ => cd_s115_2) ?_
    rw [h5, if_pos (nI_lt hi (by omega)), show (1 : Int32) <<< (nI i &&& 31) = nI (2 ^ i) from cw_sh1 (by omega), cw_or, nI_1]
    cases hu : d.testBit i with
    | true =>
      rw [if_neg (fun q => by rw [hb.mp q] at hu; cases hu)]
      refine K () ?_
      rw [he, hu, Bool.not_true, Bool.false_and, if_neg (by decide)]
    | false =>
      have hlt : d < d ||| 2 ^ i := by
        rw [ce_or_x, hu, if_neg (by decide)]
        exact ce_xor_gt hu
      have hlt2 : d ||| 2 ^ i < 2 ^ c := ce_or_lt hd (Nat.pow_lt_pow_right (by decide) hi)
      rw [if_pos (hb.mpr hu), if_pos (cd_inN (by omega) (by decide)), nI_clamp (by omega), hg _ hlt hlt2]
      rw [hu, Bool.not_false, Bool.true_and] at he
      cases hgd : cf_gd S F mem (D 0 2) c (d ||| 2 ^ i) with
      | false =>
        rw [if_pos (show cd_tf false = 0 from rfl)]
        refine K () ?_
        rw [he, hgd, if_neg (by decide)]
      | true =>
        rw [hgd, if_pos rfl] at he
        rw [if_neg (show ¬ cd_tf true = 0 by decide), he]
        exact cw_ret ⟨rfl, rfl, rfl⟩
/-- what standsBy leaves alone -/
def cf_fr116 (I I1 : Nat → Nat → Int32) : Prop := ∀ a j, ¬ (a = 5 ∨ 8 ≤ a ∧ a ≤ 12 ∨ 15 ≤ a ∧ a ≤ 20 ∨ 22 ≤ a ∧ a ≤ 25) → I1 a j = I a j
theorem cp_116 (hK : ce_ok D S Y) (hM : cf_M D S Y w I J) (hm : cf_mem S (D 0 2) c mem) (hc : c ≤ 7) (h5 : I 21 5 = nI c) (h30 : ∀ i, i < c → I 30 i = nI (mem i)) {u m : Nat} (hu : u < 2 ^ c) (hmm : m < 5) : cw L w (cd_c 116 [.ref 21, .ref 5, .ref (cd_ple w), .ref 45, .int (nI u), .int (nI m)] (cd_mm L w I J)) (fun v I1 J1 => v = some (.int (cd_tf (ce_sw D S (S 0 2) m (cf_U mem (D 0 2) c u)))) ∧ cf_M D S Y w I1 J1 ∧ cf_fr116 I I1) := by
  have hp := cf_ple w
  have hU := hK.2.2.1.2.2.2.1
  have h8 := hK.1.1.1
  have h12 := hK.1.1.2.2.1
  have hS2 := hK.2.1.1.2.2.1
  have hpw : 2 ^ c ≤ 128 := Nat.le_trans (Nat.pow_le_pow_right (by decide) hc) (by decide)
  have hpn := ce_pw h12
  refine cw_c (l := [.ref 21, .ref 5, .ref (cd_ple w), .ref 45, .int (nI u), .int (nI m), .null, .null, .null]) (by cases w <;> rfl) (by cases w <;> rfl) ?_
  refine cw_m (fun _ => cd_s116_0 hp) ?_
  refine cw_cv (cw_mono (cp_39 (s := 22) (u := 45) (by decide) (by decide) (by decide)) ?_)
  intro v I1 J1 ⟨hv, hJ, f1, hcp⟩
  have hJ := hJ.symm
  subst hJ
  refine ⟨hv, ?_⟩
  have Q1 := hcp D S h8 h12 hM.1.2.1
  refine cw_m (fun _ => cd_s116_4 hp) ?_
  generalize ha : ce_an (S 0 2) (cf_U mem (D 0 2) c u) = a
  have aM : ∀ i, i < c → a.testBit (mem i) = !u.testBit i := fun i hi => by rw [← ha]; exact hm.T_tb hi
  have aN : ∀ k, cd_held S k = false → a.testBit k = false := fun k hk => by
    rw [← ha, ce_an_tb]
    have : (S 0 2).testBit k = false := hk
    rw [this, Bool.false_and]
  have hHN : ∀ i, i ≤ c → ce_hnds a m (if i < c then mem i else D 0 2) = ce_hnds a m (cf_E mem i) := fun i hi => by
    refine cf_hnds_skip _ ?_ (fun k h1 h2 => aN k (hm.gap hi h1 h2))
    unfold cf_E
    by_cases h0 : i = 0
    · rw [if_pos h0]; exact Nat.zero_le _
    · rw [if_neg h0]
      by_cases hic : i < c
      · rw [if_pos hic]
        exact hm.2.2.1 (i - 1) i (by omega) hic
      · rw [if_neg hic]
        exact (hm.2.1 (i - 1) (by omega)).1
  have hEn : ∀ i, i < c → cf_E mem i ≤ mem i := fun i hi => by
    unfold cf_E
    by_cases h0 : i = 0
    · rw [if_pos h0]; exact Nat.zero_le _
    · rw [if_neg h0]
      exact hm.2.2.1 (i - 1) i (by omega) hi
  have hES : ∀ i, cf_E mem (i + 1) = mem i + 1 := fun i => by
    unfold cf_E
    rw [if_neg (Nat.succ_ne_zero i)]
    rfl
  generalize hHd : (fun i => ce_msk (fun k => decide (k < cf_E mem i) && ((cf_U mem (D 0 2) c u).testBit k || (ce_hnds a m (cf_E mem i)).1.testBit k)) (D 0 2)) = H
  have Hdef : ∀ i, H i = ce_msk (fun k => decide (k < cf_E mem i) && ((cf_U mem (D 0 2) c u).testBit k || (ce_hnds a m (cf_E mem i)).1.testBit k)) (D 0 2) := fun i => by rw [← hHd]
  have Htb : ∀ i k, k < D 0 2 → (H i).testBit k = (decide (k < cf_E mem i) && ((cf_U mem (D 0 2) c u).testBit k || (ce_hnds a m (cf_E mem i)).1.testBit k)) := fun i k hk => by rw [Hdef, ce_msk_tb, decide_eq_true hk, Bool.true_and]
  have Hlt : ∀ i, H i < 2 ^ D 0 2 := fun i => by rw [Hdef]; exact ce_msk_lt _ _
  have hnb : ∀ i, (ce_hnds a m (cf_E mem i)).1 < 2 ^ cf_E mem i ∧ (ce_hnds a m (cf_E mem i)).2 ≤ m := fun i => ce_hnds_b a m _
  have go := cw_up (L := L) (w := w) (Q := fun v I1 J1 => v = some (.int (cd_tf (ce_sw D S (S 0 2) m (cf_U mem (D 0 2) c u)))) ∧ cf_M D S Y w I1 J1 ∧ cf_fr116 I I1) (fun i (y : (Nat → Nat → Int32) × Value) => cd_go 116 12 [.ref 21, .ref 5, .ref (cd_ple w), .ref 45, .int (nI u), .int (nI m), .int (nI (ce_hnds a m (cf_E mem i)).2), .int (nI i), y.2] [] (cd_mm L w y.1 J)) (fun i y => (∀ a j, ¬ (a = 22 ∧ j = 2 ∨ a = 24) → y.1 a j = I1 a j) ∧ y.1 22 2 = nI (H i) ∧ ∀ k, k < D 0 2 → y.1 24 k = nI (if (ce_hnds a m (cf_E mem i)).1.testBit k then 4 else S 2 k)) c ?_ ?_ 0 (cd_up I1 22 2 0, .null) (Nat.zero_le _) ⟨fun a j hn => cd_up_k2 (by omega), ?_, fun k hk => ?_⟩
  · exact go
  · intro ⟨I3, v8⟩ ⟨f3, g3, k3⟩
    replace f3 : ∀ a j, ¬ (a = 22 ∧ j = 2 ∨ a = 24) → I3 a j = I1 a j := f3
    replace g3 : I3 22 2 = nI (H c) := g3
    replace k3 : ∀ k, k < D 0 2 → I3 24 k = nI (if (ce_hnds a m (cf_E mem c)).1.testBit k then 4 else S 2 k) := k3
    have f3' : ∀ a j, ¬ (22 ≤ a ∧ a ≤ 25) → I3 a j = I a j := fun a j hn => (f3 a j (by omega)).trans (f1 a j (by omega))
    have M3 : cf_M D S Y w I3 J := hM.of hK (fun a k hn => f3' a k (by omega))
    have hhn : ce_hn D (S 0 2) (cf_U mem (D 0 2) c u) m = (ce_hnds a m (cf_E mem c)).1 := by
      unfold ce_hn
      rw [ha, ← hHN c (Nat.le_refl _), if_neg (Nat.lt_irrefl _)]
    have gapc : ∀ k, cf_E mem c ≤ k → k < D 0 2 → cd_held S k = false := fun k h1 h2 => hm.gap (Nat.le_refl _) h1 (by rw [if_neg (Nat.lt_irrefl _)]; exact h2)
    have hH : H c = ce_msk (fun k => (cf_U mem (D 0 2) c u ||| (ce_hnds a m (cf_E mem c)).1).testBit k) (D 0 2) := by
      rw [Hdef]
      refine ce_msk_cong _ (fun k hk => ?_)
      rw [Nat.testBit_or]
      by_cases hkE : k < cf_E mem c
      · rw [decide_eq_true hkE, Bool.true_and]
      · rw [decide_eq_false hkE, Bool.false_and, cf_low (hnb c).1 (by omega), Bool.or_false]
        have hh := gapc k (by omega) hk
        exact (cf_mem.U_no (fun i hi e => by rw [← e, (hm.2.1 i hi).2] at hh; cases hh)).symm
    have Q3 : cf_S D (ce_eff (ce_swS D S (S 0 2) m (cf_U mem (D 0 2) c u)) (ce_hn D (S 0 2) (cf_U mem (D 0 2) c u) m)) 22 I3 := by
      rw [hhn]
      refine ⟨⟨(f3 _ _ (by omega)).trans Q1.1.1, ?_⟩, fun t ht => (f3 _ _ (by omega)).trans (Q1.2.1 t ht), fun k hk => ⟨?_, ?_⟩⟩
      · rw [g3, hH]
        show _ = nI (ce_msk (fun k => (cf_U mem (D 0 2) c u ||| ce_hn D (S 0 2) (cf_U mem (D 0 2) c u) m).testBit k) (D 0 2))
        rw [hhn]
      · rw [show (22 : Nat) + 2 = 24 from rfl, k3 k hk]
        show _ = nI (bif (ce_hnds a m (cf_E mem c)).1.testBit k then 4 else S 2 k)
        cases (ce_hnds a m (cf_E mem c)).1.testBit k <;> rfl
      · rw [f3 _ _ (by omega)]
        refine ((Q1.2.2 k hk).2).trans ?_
        show _ = nI (bif Nat.beq (S 2 k) 2 then S 3 k else 0)
        cases hb : Nat.beq (S 2 k) 2 with
        | true => rfl
        | false =>
          rw [hK.2.1.2.2.2.1 k hk (fun q => by rw [q] at hb; cases hb)]
          rfl
    have ok1 : cd_okS D (ce_eff (ce_swS D S (S 0 2) m (cf_U mem (D 0 2) c u)) (ce_hn D (S 0 2) (cf_U mem (D 0 2) c u) m)) := by
      refine ⟨hK.2.1.1.1, hK.2.1.1.2.1, ce_msk_lt _ _, fun k hk => ?_⟩
      have := hK.2.1.1.2.2.2 k hk
      show (bif (ce_hn D (S 0 2) (cf_U mem (D 0 2) c u) m).testBit k then 4 else S 2 k) ≤ 4 ∧ (bif Nat.beq (S 2 k) 2 then S 3 k else 0) ≤ 99
      refine ⟨?_, ?_⟩
      · cases (ce_hn D (S 0 2) (cf_U mem (D 0 2) c u) m).testBit k with
        | true => exact Nat.le_refl _
        | false => exact this.1
      · cases Nat.beq (S 2 k) 2 with
        | true => exact this.2
        | false => exact Nat.zero_le _
    have ok2 : ce_inj D (ce_eff (ce_swS D S (S 0 2) m (cf_U mem (D 0 2) c u)) (ce_hn D (S 0 2) (cf_U mem (D 0 2) c u) m)) := hK.2.1.2.2.1
    show cw L w (cd_go 116 12 [.ref 21, .ref 5, .ref (cd_ple w), .ref 45, .int (nI u), .int (nI m), .int (nI (ce_hnds a m (cf_E mem c)).2), .int (nI c), v8] [] (cd_mm L w I3 J)) _
    refine cw_m (fun _ => cd_s116_12 hp) ?_
    rw [f3' _ _ (by omega), h5, if_neg (fun q => Int32.lt_irrefl q)]
    unfold ce_sw
    refine cw_ci (cw_mono (cp_79 (o := none) (b := 0) hp (Or.inl rfl) hK.1 ok1 ok2 M3.1.1 Q3 M3.2 (fun u x => by cases x) (by decide)) ?_)
    intro v I4 J4 ⟨fJ4, f4, C4, ev⟩
    have M4 : cf_M D S Y w I4 J4 := ⟨M3.1.of hU (fun a k _ hn => f4 a k (by unfold cf_scr at hn; omega)) fJ4, C4⟩
    have fr4 : cf_fr116 I I4 := fun a k x => (f4 a k (by omega)).trans (f3' a k (by omega))
    cases hn : ce_next D (ce_eff (ce_swS D S (S 0 2) m (cf_U mem (D 0 2) c u)) (ce_hn D (S 0 2) (cf_U mem (D 0 2) c u) m)) none 0 with
    | none =>
      rw [hn] at ev
      refine ⟨_, ev, ?_⟩
      refine cw_m (fun _ => cd_s116_64 hp) ?_
      rw [if_pos (show nI 1 &&& 1 = nI 1 by decide)]
      exact cw_ret ⟨rfl, M4, fr4⟩
    | some e =>
      rw [hn] at ev
      refine ⟨_, ev.1, ?_⟩
      refine cw_m (fun _ => cd_s116_64 hp) ?_
      rw [if_pos (show nI 0 &&& 1 = nI 0 by decide)]
      exact cw_ret ⟨rfl, M4, fr4⟩
  · intro i ⟨I3, v8⟩ hi ⟨f3, g3, k3⟩ K
    replace f3 : ∀ a j, ¬ (a = 22 ∧ j = 2 ∨ a = 24) → I3 a j = I1 a j := f3
    replace g3 : I3 22 2 = nI (H i) := g3
    replace k3 : ∀ k, k < D 0 2 → I3 24 k = nI (if (ce_hnds a m (cf_E mem i)).1.testBit k then 4 else S 2 k) := k3
    have f3' : ∀ a j, ¬ (22 ≤ a ∧ a ≤ 25) → I3 a j = I a j := fun a j hn => (f3 a j (by omega)).trans (f1 a j (by omega))
    have hEi := hEn i hi
    have hmi := (hm.2.1 i hi).1
    have e0 : ce_hnds a m (cf_E mem (i + 1)) = if (!u.testBit i) && decide (0 < (ce_hnds a m (cf_E mem i)).2) then ((ce_hnds a m (cf_E mem i)).1 + 2 ^ mem i, (ce_hnds a m (cf_E mem i)).2 - 1) else ce_hnds a m (cf_E mem i) := by
      have hs := hHN i (by omega)
      rw [if_pos hi] at hs
      rw [hES]
      show (if a.testBit (mem i) && decide (0 < (ce_hnds a m (mem i)).2) then ((ce_hnds a m (mem i)).1 + 2 ^ mem i, (ce_hnds a m (mem i)).2 - 1) else ce_hnds a m (mem i)) = _
      rw [hs, aM i hi]
    have b0 := hnb i
    have low : ∀ k, cf_E mem i ≤ k → (ce_hnds a m (cf_E mem i)).1.testBit k = false := fun k hk => cf_low b0.1 hk
    have Ugap : ∀ k, cf_E mem i ≤ k → k < mem i → (cf_U mem (D 0 2) c u).testBit k = false := fun k h1 h2 => by
      have hh := hm.gap (i := i) (by omega) h1 (by rw [if_pos hi]; exact h2)
      exact cf_mem.U_no (fun j hj e => by rw [← e, (hm.2.1 j hj).2] at hh; cases hh)
    have Hi := Hlt i
    -- H grows by the member, where it is up or in hand
    have grow : (ce_hnds a m (cf_E mem (i + 1))).1 = (ce_hnds a m (cf_E mem i)).1 ∧ u.testBit i = true ∨ (ce_hnds a m (cf_E mem (i + 1))).1 = (ce_hnds a m (cf_E mem i)).1 + 2 ^ mem i → H (i + 1) = H i ||| 2 ^ mem i := fun hcase => by
      apply Nat.eq_of_testBit_eq
      intro k
      by_cases hk : k < D 0 2
      · rw [Htb _ _ hk, Nat.testBit_or, Htb _ _ hk, ce_2tb, hES]
        rcases Nat.lt_trichotomy k (mem i) with q | q | q
        · rw [decide_eq_true (show k < mem i + 1 by omega), Bool.true_and, decide_eq_false (show ¬ mem i = k by omega), Bool.or_false]
          have e2 : (ce_hnds a m (mem i + 1)).1.testBit k = (ce_hnds a m (cf_E mem i)).1.testBit k := by
            rw [← hES]
            rcases hcase with ⟨h1, _⟩ | h1
            · rw [h1]
            · rw [h1, Nat.add_comm, Nat.testBit_two_pow_add_gt q]
          rw [e2]
          by_cases hkE : k < cf_E mem i
          · rw [decide_eq_true hkE, Bool.true_and]
          · rw [decide_eq_false hkE, Bool.false_and, low k (by omega), Ugap k (by omega) q]
            rfl
        · subst q
          rw [decide_eq_true (show mem i < mem i + 1 by omega), decide_eq_true rfl, Bool.or_true, Bool.true_and]
          rcases hcase with ⟨_, h1⟩ | h1
          · rw [hm.U_tb hi, h1]
            rfl
          · rw [← hES, h1, Nat.add_comm, Nat.testBit_two_pow_add_eq, low _ hEi]
            exact Bool.or_true _
        · rw [decide_eq_false (show ¬ k < mem i + 1 by omega), decide_eq_false (show ¬ k < cf_E mem i by omega), decide_eq_false (show ¬ mem i = k by omega)]
          rfl
      · rw [cf_low (Hlt (i + 1)) (by omega), cf_low (ce_or_lt Hi (Nat.pow_lt_pow_right (by decide) hmi)) (by omega)]
    have keep : (ce_hnds a m (cf_E mem (i + 1))).1 = (ce_hnds a m (cf_E mem i)).1 → u.testBit i = false → H (i + 1) = H i := fun h1 h2 => by
      rw [Hdef, Hdef]
      refine ce_msk_cong _ (fun k hk => ?_)
      rw [h1, hES]
      rcases Nat.lt_trichotomy k (mem i) with q | q | q
      · rw [decide_eq_true (show k < mem i + 1 by omega), Bool.true_and]
        by_cases hkE : k < cf_E mem i
        · rw [decide_eq_true hkE, Bool.true_and]
        · rw [decide_eq_false hkE, Bool.false_and, low k (by omega), Ugap k (by omega) q]
          rfl
      · subst q
        rw [decide_eq_false (show ¬ mem i < cf_E mem i by omega), Bool.false_and, low _ hEi, hm.U_tb hi, h2]
        exact Bool.and_false _
      · rw [decide_eq_false (show ¬ k < mem i + 1 by omega), decide_eq_false (show ¬ k < cf_E mem i by omega), Bool.false_and]
    have hin : cd_in (nI i) 7 = true := cd_inN (by omega) (by decide)
    have hin2 : cd_in (nI (mem i)) 12 = true := cd_inN (by omega) (by decide)
    have hb := nx_bit (k := u) (j := i) (by omega) (by omega)
    show cw L w (cd_go 116 12 [.ref 21, .ref 5, .ref (cd_ple w), .ref 45, .int (nI u), .int (nI m), .int (nI (ce_hnds a m (cf_E mem i)).2), .int (nI i), v8] [] (cd_mm L w I3 J)) _
    refine cw_m (fun _ => cd_s116_12 hp) ?_
    rw [f3' 21 _ (by omega), h5, if_pos (nI_lt hi (by omega)), if_pos hin, nI_clamp (by omega), f3' 30 _ (by omega), h30 i hi, nI_clamp (by omega), g3, show (1 : Int32) <<< (nI (mem i) &&& 31) = nI (2 ^ mem i) from cw_sh1 (by omega), cw_or, nI_1]
    cases hui : u.testBit i with
    | true =>
      rw [hui] at e0
      replace e0 : ce_hnds a m (cf_E mem (i + 1)) = ce_hnds a m (cf_E mem i) := e0
      rw [if_neg (fun q => by rw [hb.mp q] at hui; cases hui)]
      have hg := grow (Or.inl ⟨by rw [e0], hui⟩)
      have := K (cd_up I3 22 2 (nI (H i ||| 2 ^ mem i)), .int (nI (mem i))) ⟨fun a j hn => (cd_up_k2 (by omega)).trans (f3 a j hn), by
        rw [hg]
        show cd_up I3 22 2 (nI (H i ||| 2 ^ mem i)) 22 2 = _
        rw [cd_up_s], fun k hk => by
        rw [e0]
        show cd_up I3 22 2 (nI (H i ||| 2 ^ mem i)) 24 k = _
        rw [cd_up_a (by decide)]
        exact k3 k hk⟩
      rw [e0] at this
      exact this
    | false =>
      rw [if_pos (hb.mpr hui)]
      rw [hui, Bool.not_false, Bool.true_and] at e0
      by_cases hf : 0 < (ce_hnds a m (cf_E mem i)).2
      · rw [decide_eq_true hf, if_pos rfl] at e0
        rw [if_pos (show (0 : Int32) < nI (ce_hnds a m (cf_E mem i)).2 from nI_lt (a := 0) hf (by omega)), if_pos hin2, show nI (ce_hnds a m (cf_E mem i)).2 + (-1) = nI ((ce_hnds a m (cf_E mem i)).2 - 1) from cw_m1a (by omega)]
        have hg := grow (Or.inr (by rw [e0]))
        have := K (cd_up (cd_up I3 22 2 (nI (H i ||| 2 ^ mem i))) 24 (mem i) 4, .int (nI (mem i))) ⟨fun a j hn => (cd_up_a (by omega)).trans ((cd_up_k2 (by omega)).trans (f3 a j hn)), by
          rw [hg]
          show cd_up (cd_up I3 22 2 (nI (H i ||| 2 ^ mem i))) 24 (mem i) 4 22 2 = _
          rw [cd_up_a (by decide), cd_up_s], fun k hk => by
          rw [e0]
          show cd_up (cd_up I3 22 2 (nI (H i ||| 2 ^ mem i))) 24 (mem i) 4 24 k = nI (if ((ce_hnds a m (cf_E mem i)).1 + 2 ^ mem i).testBit k then 4 else S 2 k)
          rcases Nat.lt_trichotomy k (mem i) with q | q | q
          · rw [Nat.add_comm, Nat.testBit_two_pow_add_gt q, cd_up_k (by omega), cd_up_a (by decide)]
            exact k3 k hk
          · subst q
            rw [Nat.add_comm, Nat.testBit_two_pow_add_eq, low _ hEi, cd_up_s]
            rfl
          · rw [cf_low (m := (ce_hnds a m (cf_E mem i)).1 + 2 ^ mem i) (n := mem i + 1) (by
              have h1 : 2 ^ cf_E mem i ≤ 2 ^ mem i := Nat.pow_le_pow_right (by decide) hEi
              have h2 := b0.1
              rw [Nat.pow_succ]
              omega) (by omega), cd_up_k (by omega), cd_up_a (by decide), k3 k hk, low k (by omega)]⟩
        rw [e0] at this
        exact this
      · rw [decide_eq_false hf, if_neg (by decide)] at e0
        rw [if_neg (show ¬ (0 : Int32) < nI (ce_hnds a m (cf_E mem i)).2 from fun q => hf ((nI_ltI (a := 0) (by decide) (by omega)).mp q))]
        have hg := keep (by rw [e0]) hui
        have := K (I3, .int (nI (mem i))) ⟨f3, by rw [hg]; exact g3, fun k hk => by rw [e0]; exact k3 k hk⟩
        rw [e0] at this
        exact this
  · show cd_up I1 22 2 0 22 2 = nI (H 0)
    rw [cd_up_s, Hdef, show ce_msk (fun k => decide (k < cf_E mem 0) && ((cf_U mem (D 0 2) c u).testBit k || (ce_hnds a m (cf_E mem 0)).1.testBit k)) (D 0 2) = 0 from by
      apply Nat.eq_of_testBit_eq
      intro k
      rw [ce_msk_tb, Nat.zero_testBit, show cf_E mem 0 = 0 from rfl, decide_eq_false (Nat.not_lt_zero k), Bool.false_and, Bool.and_false]]
    rfl
  · show cd_up I1 22 2 0 24 k = nI (if (0 : Nat).testBit k then 4 else S 2 k)
    rw [cd_up_a (by decide), Nat.zero_testBit]
    exact (Q1.2.2 k hk).1
end CGY
