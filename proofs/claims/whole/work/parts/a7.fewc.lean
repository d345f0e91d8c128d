/-! ===== the class: fewest, heap ===== -/
/-- the least count among those that stand -/
def cf_fm (G : Nat → Bool) (c : Nat → Nat) : Nat → Option Nat
  | 0 => none
  | m + 1 => if ce_lto (cf_fm G c m) (c m) && G m then some (c m) else cf_fm G c m
theorem cf_fm_ch {G : Nat → Bool} {c : Nat → Nat} : ∀ n, match cf_fm G c n with
    | none => ∀ m, m < n → G m = false
    | some v => (∃ m, m < n ∧ G m = true ∧ c m = v) ∧ ∀ m, m < n → G m = true → v ≤ c m := by
  intro n
  induction n with
  | zero => intro m hm; omega
  | succ n ih =>
    have e : cf_fm G c (n + 1) = if ce_lto (cf_fm G c n) (c n) && G n then some (c n) else cf_fm G c n := rfl
    rw [e]
    cases hG : G n with
    | false =>
      rw [Bool.and_false, if_neg (by decide)]
      cases hf : cf_fm G c n with
      | none =>
        rw [hf] at ih
        intro m hm
        by_cases hmn : m = n
        · rw [hmn]; exact hG
        · exact ih m (by omega)
      | some v =>
        rw [hf] at ih
        obtain ⟨⟨m, h1, h2⟩, h3⟩ := ih
        refine ⟨⟨m, by omega, h2⟩, fun m' hm' hG' => ?_⟩
        have : m' ≠ n := fun q => by rw [q, hG] at hG'; cases hG'
        exact h3 m' (by omega) hG'
    | true =>
      rw [Bool.and_true]
      cases hf : cf_fm G c n with
      | none =>
        rw [hf] at ih
        rw [if_pos (show ce_lto none (c n) = true from rfl)]
        refine ⟨⟨n, by omega, hG, rfl⟩, fun m hm hGm => ?_⟩
        by_cases hmn : m = n
        · rw [hmn]; exact Nat.le_refl _
        · have := ih m (by omega)
          rw [hGm] at this
          cases this
      | some v =>
        rw [hf] at ih
        obtain ⟨⟨m, h1, h2⟩, h3⟩ := ih
        by_cases hl : c n < v
        · rw [if_pos (show ce_lto (some v) (c n) = true from decide_eq_true hl)]
          refine ⟨⟨n, by omega, hG, rfl⟩, fun m' hm' hG' => ?_⟩
          by_cases hmn : m' = n
          · rw [hmn]; exact Nat.le_refl _
          · have := h3 m' (by omega) hG'
            omega
        · rw [if_neg (show ¬ ce_lto (some v) (c n) = true from fun q => hl (of_decide_eq_true q))]
          refine ⟨⟨m, by omega, h2⟩, fun m' hm' hG' => ?_⟩
          by_cases hmn : m' = n
          · rw [hmn]; omega
          · exact h3 m' (by omega) hG'
theorem cf_fm_eq {G G2 : Nat → Bool} {c c2 : Nat → Nat} {n : Nat} (h1 : ∀ m, m < n → G m = true → ∃ m2, m2 < n ∧ G2 m2 = true ∧ c2 m2 = c m) (h2 : ∀ m, m < n → G2 m = true → ∃ m2, m2 < n ∧ G m2 = true ∧ c m2 = c2 m) : cf_fm G c n = cf_fm G2 c2 n := by
  have a := cf_fm_ch (G := G) (c := c) n
  have b := cf_fm_ch (G := G2) (c := c2) n
  cases ha : cf_fm G c n with
  | none =>
    rw [ha] at a
    cases hb : cf_fm G2 c2 n with
    | none => rfl
    | some v =>
      rw [hb] at b
      obtain ⟨⟨m, b1, b2, _⟩, _⟩ := b
      obtain ⟨m2, c1, c2, _⟩ := h2 m b1 b2
      have := a m2 c1
      rw [c2] at this
      cases this
  | some v =>
    rw [ha] at a
    obtain ⟨⟨m, a1, a2, a3⟩, a4⟩ := a
    obtain ⟨m2, d1, d2, d3⟩ := h1 m a1 a2
    cases hb : cf_fm G2 c2 n with
    | none =>
      rw [hb] at b
      have := b m2 d1
      rw [d2] at this
      cases this
    | some v2 =>
      rw [hb] at b
      obtain ⟨⟨m3, b1, b2, b3⟩, b4⟩ := b
      obtain ⟨m4, e1, e2, e3⟩ := h2 m3 b1 b2
      have x1 := b4 m2 d1 d2
      have x2 := a4 m4 e1 e2
      congr 1
      omega
/-- the state with pegs m -/
def cf_pg (D : cd_D) (S : cd_S) (m : Nat) : cd_S := fun r k => bif Nat.beq r 2 then (if m.testBit k then 1 else 0) else bif Nat.beq r 3 then 0 else bif Nat.beq r 0 && Nat.beq k 2 then cf_rc D S (D 0 2) else S r k
/-- bits the other way round -/
def cf_rv (n r : Nat) : Nat := ce_msk (fun k => r.testBit (n - 1 - k)) n
theorem cf_rv_lt (n r : Nat) : cf_rv n r < 2 ^ n := ce_msk_lt _ n
theorem cf_rv_tb {n r k : Nat} (hk : k < n) : (cf_rv n r).testBit k = r.testBit (n - 1 - k) := by
  unfold cf_rv
  rw [ce_msk_tb, decide_eq_true hk, Bool.true_and]
theorem cf_rv_rv {n r : Nat} (hr : r < 2 ^ n) : cf_rv n (cf_rv n r) = r := by
  apply Nat.eq_of_testBit_eq
  intro k
  by_cases hk : k < n
  · rw [cf_rv_tb hk, cf_rv_tb (by omega), show n - 1 - (n - 1 - k) = k by omega]
  · rw [cf_low hr (show n ≤ k by omega), cf_low (cf_rv_lt n _) (show n ≤ k by omega)]
theorem cf_rv_eq {D : cd_D} {S : cd_S} {r : Nat} : ce_eqS D (ce_hb D S r 2) (cf_pg D S (cf_rv (D 0 2) r)) := by
  have hk2 : ∀ k, k < D 0 2 → r / 2 ^ (D 0 2 - 1 - k) % 2 = if (cf_rv (D 0 2) r).testBit k then 1 else 0 := fun k hk => by
    rw [cf_rv_tb hk, Nat.testBit_eq_decide_div_mod_eq]
    have := Nat.mod_lt (r / 2 ^ (D 0 2 - 1 - k)) (show 0 < 2 by decide)
    by_cases h : r / 2 ^ (D 0 2 - 1 - k) % 2 = 1
    · rw [decide_eq_true h, if_pos rfl, h]
    · rw [decide_eq_false h, if_neg (by decide)]
      omega
  refine ⟨⟨fun _ _ => rfl, rfl, rfl⟩, fun k hk => ⟨?_, ?_⟩⟩
  · rw [ce_hb2, hk2 k hk]
    rfl
  · rw [ce_hb3, hk2 k hk, if_neg (by split <;> decide)]
    rfl
theorem cf_rv_cnt {D : cd_D} {S : cd_S} {r : Nat} : ce_pgs D S r = fa_cnt (fun k => (cf_rv (D 0 2) r).testBit k) (D 0 2) := by
  unfold ce_pgs
  refine ce_cnt_eq (fun k hk => ?_)
  have := (cf_rv_eq (D := D) (S := S) (r := r)).2 k hk
  show Nat.beq (ce_hb D S r 2 2 k) 1 = (cf_rv (D 0 2) r).testBit k
  rw [this.1]
  show Nat.beq (if (cf_rv (D 0 2) r).testBit k then 1 else 0) 1 = _
  cases (cf_rv (D 0 2) r).testBit k <;> rfl
/-- what fewest comes to -/
def cf_few (D : cd_D) (S : cd_S) : Nat → Option Nat := cf_fm (fun m => (ce_next D (cf_pg D S m) none 0).isNone) (fun m => fa_cnt (fun k => m.testBit k) (D 0 2))
theorem cf_few_eq {D : cd_D} {S : cd_S} (hD : cd_okD D) : cf_few D S (2 ^ D 0 2) = ce_fe D S (2 ^ D 0 2) := by
  have e : ∀ n, ce_fe D S n = cf_fm (fun r => (ce_next D (ce_hb D S r 2) none 0).isNone) (fun r => ce_pgs D S r) n := by
    intro n
    induction n with
    | zero => rfl
    | succ n ih =>
      show (if ce_lto (ce_fe D S n) (ce_pgs D S n) && (ce_next D (ce_hb D S n 2) none 0).isNone then some (ce_pgs D S n) else ce_fe D S n) = _
      rw [ih]
      rfl
  rw [e]
  refine cf_fm_eq (fun m hm h => ⟨cf_rv (D 0 2) m, ce_msk_lt _ _, ?_, ?_⟩) (fun r hr h => ⟨cf_rv (D 0 2) r, ce_msk_lt _ _, ?_, ?_⟩)
  · show (ce_next D (ce_hb D S (cf_rv (D 0 2) m) 2) none 0).isNone = true
    rw [cf_rv_eq.next hD, cf_rv_rv hm]
    exact h
  · show ce_pgs D S (cf_rv (D 0 2) m) = _
    rw [cf_rv_cnt, cf_rv_rv hm]
  · show (ce_next D (cf_pg D S (cf_rv (D 0 2) r)) none 0).isNone = true
    rw [← cf_rv_eq.next hD]
    exact h
  · show fa_cnt (fun k => (cf_rv (D 0 2) r).testBit k) (D 0 2) = _
    rw [← cf_rv_cnt]
section CGU
variable {L : Nat} {w : Bool} {I : Nat → Nat → Int32} {J : Nat → Nat → Int64} {D : cd_D} {S : cd_S}
variable {Y : ce_Y} {p s z : Nat}
theorem cf_pg_ok (hT : ce_okT D S) (m : Nat) : cd_okS D (cf_pg D S m) ∧ ce_inj D (cf_pg D S m) := by
  refine ⟨⟨hT.1.1, hT.1.2.1, ce_msk_lt _ _, fun k hk => ?_⟩, hT.2.2.1⟩
  show (if m.testBit k then 1 else 0) ≤ 4 ∧ 0 ≤ 99
  exact ⟨by split <;> decide, Nat.zero_le _⟩
theorem cp_113 (hK : ce_ok D S Y) (hM : cf_M D S Y w I J) (h7 : D 0 2 ≤ 7) : cw L w (cd_c 113 [.ref 21, .ref 5, .ref (cd_ple w), .ref 45] (cd_mm L w I J)) (fun v I1 J1 => v = some (.int (cd_oi (ce_fe D S (2 ^ D 0 2)))) ∧ cf_M D S Y w I1 J1 ∧ cf_fr I I1) := by
  have hp := cf_ple w
  have hU := hK.2.2.1.2.2.2.1
  have hpw : 2 ^ D 0 2 ≤ 128 := Nat.le_trans (Nat.pow_le_pow_right (by decide) h7) (by decide)
  rw [← cf_few_eq hK.1]
  refine cw_c (l := [.ref 21, .ref 5, .ref (cd_ple w), .ref 45, .null, .null, .null, .null]) (by cases w <;> rfl) (by cases w <;> rfl) ?_
  refine cw_m (fun _ => cd_s113_0 hp) ?_
  have go := cw_up (L := L) (w := w) (Q := fun v I1 J1 => v = some (.int (cd_oi (cf_few D S (2 ^ D 0 2)))) ∧ cf_M D S Y w I1 J1 ∧ cf_fr I I1) (fun i (y : (Nat → Nat → Int32) × (Nat → Nat → Int64) × Value × Value) => cd_go 113 4 [.ref 21, .ref 5, .ref (cd_ple w), .ref 45, .int (cd_oi (cf_few D S i)), .int (nI i), y.2.2.1, y.2.2.2] [] (cd_mm L w y.1 y.2.1)) (fun i y => cf_M D S Y w y.1 y.2.1 ∧ cf_fr I y.1) (2 ^ D 0 2) ?_ ?_ 0 (I, J, .null, .null) (Nat.zero_le _) ⟨hM, cf_fr.rf⟩
  · exact go
  · intro ⟨I1, J1, v6, v7⟩ ⟨M1, f1⟩
    replace M1 : cf_M D S Y w I1 J1 := M1
    show cw L w (cd_go 113 4 _ _ (cd_mm L w I1 J1)) _
    refine cw_m (fun _ => cd_s113_4 hp) ?_
    rw [M1.1.1.1.2.2.1, show (1 : Int32) <<< (nI (D 0 2) &&& 31) = nI (2 ^ D 0 2) from cw_sh1 (by omega), if_neg (fun q => Int32.lt_irrefl q)]
    exact cw_ret ⟨rfl, M1, f1⟩
  · intro i ⟨I1, J1, v6, v7⟩ hi ⟨M1, f1⟩ K
    replace M1 : cf_M D S Y w I1 J1 := M1
    replace f1 : cf_fr I I1 := f1
    have hi12 : i < 4096 := by omega
    have hc := fa_cnt_le (fun k => i.testBit k) (D 0 2)
    have e1 : cf_few D S (i + 1) = if ce_lto (cf_few D S i) (fa_cnt (fun k => i.testBit k) (D 0 2)) && (ce_next D (cf_pg D S i) none 0).isNone then some (fa_cnt (fun k => i.testBit k) (D 0 2)) else cf_few D S i := rfl
    have hfb : ∀ m, cf_few D S i = some m → m ≤ 7 := fun m hm => by
      have := cf_fm_ch (G := fun m => (ce_next D (cf_pg D S m) none 0).isNone) (c := fun m => fa_cnt (fun k => m.testBit k) (D 0 2)) i
      rw [show cf_fm (fun m => (ce_next D (cf_pg D S m) none 0).isNone) (fun m => fa_cnt (fun k => m.testBit k) (D 0 2)) i = some m from hm] at this
      obtain ⟨⟨x, _, _, hx⟩, _⟩ := this
      rw [← hx]
      exact Nat.le_trans (fa_cnt_le _ _) h7
    show cw L w (cd_go 113 4 [.ref 21, .ref 5, .ref (cd_ple w), .ref 45, .int (cd_oi (cf_few D S i)), .int (nI i), v6, v7] [] (cd_mm L w I1 J1)) _
    refine cw_m (fun _ => cd_s113_4 hp) ?_
    rw [M1.1.1.1.2.2.1, show (1 : Int32) <<< (nI (D 0 2) &&& 31) = nI (2 ^ D 0 2) from cw_sh1 (by omega), if_pos (nI_lt hi (by omega)), cp_47 hi12, cf_cnt_low hi (by omega), cw_bi]
    refine cw_m (fun _ => cd_s113_12 hp) ?_
    rw [nI_1]
    generalize hmany : fa_cnt (fun k => i.testBit k) (D 0 2) = many at *
    have hin : cf_rc D S (D 0 2) < 2 ^ D 0 2 := ce_msk_lt _ _
    -- a try
    have try' : ce_lto (cf_few D S i) many = true → cw L w ((cd_cv (cd_c 107 [.ref 21, .ref (cd_ple w), .ref 45] (cd_mm L w I1 J1))).bind fun m => cd_go 113 23 [.ref 21, .ref 5, .ref (cd_ple w), .ref 45, .int (cd_oi (cf_few D S i)), .int (nI i), .int (nI many), v7] [] m) (fun v I1 J1 => v = some (.int (cd_oi (cf_few D S (2 ^ D 0 2)))) ∧ cf_M D S Y w I1 J1 ∧ cf_fr I I1) := fun hl => by
      refine cw_cv (cw_mono (cp_107 hp hK.1 hK.2.1.1 M1.1.1 M1.1.2.1) ?_)
      intro v I2 J2 ⟨hv, hJ2, f2, Q2⟩
      have hJ2 := hJ2.symm
      subst hJ2
      refine ⟨hv, ?_⟩
      refine cw_m (fun _ => cd_s113_23 hp) ?_
      have go2 := cw_up (L := L) (w := w) (Q := fun v I1 J1 => v = some (.int (cd_oi (cf_few D S (2 ^ D 0 2)))) ∧ cf_M D S Y w I1 J1 ∧ cf_fr I I1) (fun k (I3 : Nat → Nat → Int32) => cd_go 113 25 [.ref 21, .ref 5, .ref (cd_ple w), .ref 45, .int (cd_oi (cf_few D S i)), .int (nI i), .int (nI many), .int (nI k)] [] (cd_mm L w I3 J1)) (fun k I3 => (∀ a j, ¬ (a = 24 ∨ a = 25) → I3 a j = I2 a j) ∧ ∀ j, j < k → I3 24 j = nI (cf_pg D S i 2 j) ∧ I3 25 j = nI 0) (D 0 2) ?_ ?_ 0 I2 (Nat.zero_le _) ⟨fun _ _ _ => rfl, fun j hj => by omega⟩
      · exact go2
      · intro I3 ⟨f3, g3⟩
        have f3' : ∀ a j, ¬ (22 ≤ a ∧ a ≤ 25) → I3 a j = I1 a j := fun a j hn => (f3 a j (by omega)).trans (f2 a j hn)
        have M3 : cf_M D S Y w I3 J1 := M1.of hK (fun a k hn => f3' a k (by omega))
        have Q3 : cf_S D (cf_pg D S i) 22 I3 := ⟨⟨(f3 _ _ (by omega)).trans Q2.1.1, (f3 _ _ (by omega)).trans Q2.1.2⟩, fun t ht => (f3 _ _ (by omega)).trans (Q2.2.1 t ht), fun k hk => g3 k hk⟩
        obtain ⟨ok1, ok2⟩ := cf_pg_ok hK.2.1 i
        refine cw_m (fun _ => cd_s113_25 hp) ?_
        rw [M3.1.1.1.2.2.1, if_neg (fun q => Int32.lt_irrefl q)]
        refine cw_ci (cw_mono (cp_79 (o := none) (b := 0) hp (Or.inl rfl) hK.1 ok1 ok2 M3.1.1 Q3 M3.2 (fun u x => by cases x) (by decide)) ?_)
        intro v I4 J4 ⟨fJ4, f4, C4, ev⟩
        have M4 : cf_M D S Y w I4 J4 := ⟨M3.1.of hU (fun a k _ hn => f4 a k (by unfold cf_scr at hn; omega)) fJ4, C4⟩
        have fr4 : cf_fr I I4 := f1.tr (fun a k x => (f4 a k (by omega)).trans (f3' a k (by omega)))
        have K4 := K (I4, J4, .int (nI many), .int (nI (D 0 2))) ⟨M4, fr4⟩
        rw [e1, hl, Bool.true_and] at K4
        cases hn : ce_next D (cf_pg D S i) none 0 with
        | none =>
          rw [hn] at ev K4
          refine ⟨_, ev, ?_⟩
          refine cw_m (fun _ => cd_s113_52 hp) ?_
          rw [if_neg (show ¬ nI 1 = 0 by decide), nI_1]
          exact K4
        | some e =>
          rw [hn] at ev K4
          refine ⟨_, ev.1, ?_⟩
          refine cw_m (fun _ => cd_s113_52 hp) ?_
          rw [if_pos (show nI 0 = 0 from rfl), nI_1]
          exact K4
      · intro k I3 hk ⟨f3, g3⟩ K3
        have f3' : ∀ a j, ¬ (22 ≤ a ∧ a ≤ 25) → I3 a j = I1 a j := fun a j hn => (f3 a j (by omega)).trans (f2 a j hn)
        have step : ∀ x, x = (if i.testBit k then 1 else 0) → cw L w ((cd_cv (cd_c 32 [.ref 22, .int (nI k), .int (nI x), .int 0] (cd_mm L w I3 J1))).bind fun m => cd_go 113 43 [.ref 21, .ref 5, .ref (cd_ple w), .ref 45, .int (cd_oi (cf_few D S i)), .int (nI i), .int (nI many), .int (nI k)] [] m) (fun v I1 J1 => v = some (.int (cd_oi (cf_few D S (2 ^ D 0 2)))) ∧ cf_M D S Y w I1 J1 ∧ cf_fr I I1) := fun x hx => by
          rw [cp_32 (Or.inl rfl) (by omega), cw_bv]
          refine cw_m (fun _ => cd_s113_43 hp) ?_
          rw [nI_1]
          refine K3 (cd_up (cd_up I3 24 k (nI x)) 25 k 0) ⟨fun a j hn => ?_, fun j hj => ?_⟩
          · rw [cd_up_a (by omega), cd_up_a (by omega)]
            exact f3 a j hn
          · show cd_up (cd_up I3 24 k (nI x)) 25 k 0 24 j = nI (if i.testBit j then 1 else 0) ∧ cd_up (cd_up I3 24 k (nI x)) 25 k 0 25 j = nI 0
            by_cases hjk : j = k
            · subst hjk
              rw [cd_up_a (by decide), cd_up_s, cd_up_s, hx]
              exact ⟨rfl, rfl⟩
            · rw [cd_up_a (by decide), cd_up_k hjk, cd_up_k hjk, cd_up_a (by decide)]
              exact g3 j (by omega)
        refine cw_m (fun _ => cd_s113_25 hp) ?_
        rw [f3' _ _ (by omega), M1.1.1.1.2.2.1, if_pos (nI_lt hk (by omega))]
        have hb := nx_bit (k := i) (j := k) (by omega) (by omega)
        cases hu : i.testBit k with
        | false =>
          rw [if_pos (hb.mpr hu)]
          exact step 0 (by rw [hu]; rfl)
        | true =>
          rw [if_neg (fun q => by rw [hb.mp q] at hu; cases hu)]
          exact step 1 (by rw [hu]; rfl)
    cases hf : cf_few D S i with
    | none =>
      rw [if_pos (show cd_oi none = -1 from rfl)]
      rw [hf] at try'
      exact try' rfl
    | some b =>
      have hb7 := hfb b hf
      rw [if_neg (show ¬ cd_oi (some b) = -1 from fun e => by
        rw [show cd_oi (some b) = nI b from rfl, show (-1 : Int32) = zI (-1) from rfl, ← zI_n, zI_eq (by omega) (by omega) (by decide) (by decide)] at e
        omega)]
      by_cases hl : many < b
      · rw [if_pos (show nI many < cd_oi (some b) from nI_lt hl (by omega))]
        rw [hf] at try'
        exact try' (decide_eq_true hl)
      · rw [if_neg (show ¬ nI many < cd_oi (some b) from fun q => hl ((nI_ltI (by omega) (by omega)).mp q))]
        have K4 := K (I1, J1, .int (nI many), v7) ⟨M1, f1⟩
        rw [e1, hf, show ce_lto (some b) many = false from decide_eq_false hl, Bool.false_and, if_neg (by decide)] at K4
        exact K4
theorem cp_114n (hK : ce_ok D S Y) (hM : cf_M D S Y w I J) (h7 : 7 < D 0 2) : cw L w (cd_c 114 [.ref 2] (cd_mm L w I J)) (cf_post (.int (-1003)) D S Y w I) := by
  have h12 := hK.1.1.2.2.1
  refine cw_c (l := [_]) rfl rfl ?_
  refine cw_m (fun _ => cd_s114_0) ?_
  rw [hM.1.1.1.2.2.1, if_pos (show (7 : Int32) < nI (D 0 2) from nI_lt (a := 7) h7 (by omega))]
  refine cw_m (fun _ => cd_s114_16) ?_
  exact cw_ret ⟨rfl, hM, cf_fr.rf⟩
theorem cp_114 (hK : ce_ok D S Y) (hM : cf_M D S Y w I J) (h7 : D 0 2 ≤ 7) : cw L w (cd_c 114 [.ref 2] (cd_mm L w I J)) (cf_post (.int (cd_oi (ce_fe D S (2 ^ D 0 2)))) D S Y w I) := by
  refine cw_c (l := [_]) rfl rfl ?_
  refine cw_m (fun _ => cd_s114_0) ?_
  rw [hM.1.1.1.2.2.1, if_neg (show ¬ (7 : Int32) < nI (D 0 2) from fun x => by
    have := (nI_ltI (a := 7) (by decide) (by omega)).mp x
    omega)]
  refine cw_ci (cw_mono (cp_113 hK hM h7) ?_)
  intro v I1 J1 ⟨hv, M1, f1⟩
  refine ⟨_, hv, ?_⟩
  refine cw_m (fun _ => cd_s114_16) ?_
  exact cw_ret ⟨rfl, M1, f1⟩
/-- a trial with a hold gone -/
theorem cf_gone (hS : cd_okS D S) {k : Nat} {I1 : Nat → Nat → Int32} (hQ : cf_S D S 22 I1) : cf_S D (ce_hap D S (0, k)) 22 (cd_up I1 22 2 (nI (ce_an (S 0 2) (2 ^ k)))) := by
  refine ⟨⟨(cd_up_k (by decide)).trans hQ.1.1, ?_⟩, fun t ht => (cd_up_a (by decide)).trans (hQ.2.1 t ht), fun j hj => ?_⟩
  · rw [cd_up_s]
    show nI _ = nI (ce_msk (fun j => cd_held S j && !Nat.beq j k) (D 0 2))
    rw [cf_an_msk hS.2.2.1 (fun j _ => rfl)]
    rfl
  · rw [cd_up_a (by decide), cd_up_a (by decide)]
    exact hQ.2.2 j hj
theorem cp_119 (hK : ce_ok D S Y) (hM : cf_M D S Y w I J) {x : Nat} (hx : x < 2 ^ D 0 2) : cw L w (cd_c 119 [.ref 21, .ref 5, .ref (cd_ple w), .ref 45, .int (nI x)] (cd_mm L w I J)) (fun v I1 J1 => v = some (.int (nI (ce_msk (ce_hp D S x) (D 0 2)))) ∧ cf_M D S Y w I1 J1 ∧ cf_fr I I1) := by
  have hp := cf_ple w
  have hU := hK.2.2.1.2.2.2.1
  have h8 := hK.1.1.1
  have h12 := hK.1.1.2.2.1
  have hpw := ce_pw h12
  have hl2 : S 0 2 < 65536 := Nat.lt_of_lt_of_le hK.2.1.1.2.2.1 (Nat.le_trans (Nat.pow_le_pow_right (by decide) h12) (by decide))
  refine cw_c (l := [.ref 21, .ref 5, .ref (cd_ple w), .ref 45, .int (nI x), .null, .null]) (by cases w <;> rfl) (by cases w <;> rfl) ?_
  refine cw_m (fun _ => cd_s119_0 hp) ?_
  refine cw_up (L := L) (w := w) (Q := fun v I1 J1 => v = some (.int (nI (ce_msk (ce_hp D S x) (D 0 2)))) ∧ cf_M D S Y w I1 J1 ∧ cf_fr I I1) (fun i (y : (Nat → Nat → Int32) × (Nat → Nat → Int64)) => cd_go 119 4 [.ref 21, .ref 5, .ref (cd_ple w), .ref 45, .int (nI x), .int (nI (ce_msk (ce_hp D S x) i)), .int (nI i)] [] (cd_mm L w y.1 y.2)) (fun i y => cf_M D S Y w y.1 y.2 ∧ cf_fr I y.1) (D 0 2) ?_ ?_ 0 (I, J) (Nat.zero_le _) ⟨hM, cf_fr.rf⟩
  · intro ⟨I1, J1⟩ ⟨M1, f1⟩
    replace M1 : cf_M D S Y w I1 J1 := M1
    show cw L w (cd_go 119 4 _ _ (cd_mm L w I1 J1)) _
    refine cw_m (fun _ => cd_s119_4 hp) ?_
    rw [M1.1.1.1.2.2.1, if_neg (fun q => Int32.lt_irrefl q)]
    exact cw_ret ⟨rfl, M1, f1⟩
  · intro i ⟨I1, J1⟩ hi ⟨M1, f1⟩ K
    replace M1 : cf_M D S Y w I1 J1 := M1
    replace f1 : cf_fr I I1 := f1
    have em : ce_msk (ce_hp D S x) (i + 1) = ce_msk (ce_hp D S x) i + if ce_hp D S x i then 2 ^ i else 0 := ce_msk_s _ _
    have eh : ce_hp D S x i = (cd_held S i && decide ((ce_run D 60 (ce_hap D S (0, i)) none 0).2 0 2 = x)) := rfl
    show cw L w (cd_go 119 4 [.ref 21, .ref 5, .ref (cd_ple w), .ref 45, .int (nI x), .int (nI (ce_msk (ce_hp D S x) i)), .int (nI i)] [] (cd_mm L w I1 J1)) _
    refine cw_m (fun _ => cd_s119_4 hp) ?_
    rw [M1.1.1.1.2.2.1, if_pos (nI_lt hi (by omega)), cp_59 (Or.inr rfl) M1.1.2.1.1.2 hl2 (by omega), cw_bi]
    refine cw_m (fun _ => cd_s119_11 hp) ?_
    rw [nI_1]
    cases hh : (S 0 2).testBit i with
    | false =>
      rw [if_pos (show cd_tf false = 0 from rfl)]
      have K4 := K (I1, J1) ⟨M1, f1⟩
      rw [em, eh, show cd_held S i = false from hh, Bool.false_and, if_neg (by decide), Nat.add_zero] at K4
      exact K4
    | true =>
      have hh : cd_held S i = true := hh
      rw [if_neg (show ¬ cd_tf true = 0 by decide)]
      refine cw_cv (cw_mono (cp_39 (s := 22) (u := 45) (by decide) (by decide) (by decide)) ?_)
      intro v I2 J2 ⟨hv, hJ2, f2, hc⟩
      have hJ2 := hJ2.symm
      subst hJ2
      refine ⟨hv, ?_⟩
      have Q2 := hc D S h8 h12 M1.1.2.1
      refine cw_m (fun _ => cd_s119_16 hp) ?_
      rw [Q2.1.2, show (1 : Int32) <<< (nI i &&& 31) = nI (2 ^ i) from cw_sh1 (by omega), show (-1 : Int32) = zI (-1) from rfl, cw_andn]
      have Q3 := cf_gone hK.2.1.1 (k := i) Q2
      have T3 := ce_hap_okT hK.2.1 (e := (0, i)) (Or.inl ⟨rfl, hi, hh⟩)
      generalize hI3 : cd_up I2 22 2 (nI (ce_an (S 0 2) (2 ^ i))) = I3 at *
      have f3 : ∀ a j, ¬ (22 ≤ a ∧ a ≤ 25) → I3 a j = I1 a j := fun a j hn => by
        rw [← hI3, cd_up_a (by omega)]
        exact f2 a j hn
      clear hI3
      refine cw_cv (cw_mono (cp_82 (o := none) (b := 0) hp (Or.inl rfl) (Or.inl rfl) hK.1 T3 (M1.1.1.tr hp f3) Q3 (M1.2.of (fun a k x1 x2 => f3 a k (by omega)) (fun _ => rfl)) (fun u x => by cases x) (by decide)) ?_)
      intro v I4 J4 ⟨hv, fJ4, f4, C4, Q4, _⟩
      refine ⟨hv, ?_⟩
      have T4 := ce_run_okT 60 none 0 T3
      generalize hS4 : (ce_run D 60 (ce_hap D S (0, i)) none 0).2 = S4 at *
      have M4 : cf_M D S Y w I4 J4 := ⟨M1.1.of hU (fun a k _ hn => (f4 a k (by unfold cf_scr at hn; omega)).trans (f3 a k (by unfold cf_scr at hn; omega))) fJ4, C4⟩
      have fr4 : cf_fr I I4 := f1.tr (fun a k g => (f4 a k (by omega)).trans (f3 a k (by omega)))
      refine cw_m (fun _ => cd_s119_36 hp) ?_
      rw [Q4.1.2, nI_1, show (1 : Int32) <<< (nI i &&& 31) = nI (2 ^ i) from cw_sh1 (by omega), cw_or, ce_msk_or]
      have hS42 := T4.1.2.2.1
      have K4 := K (I4, J4) ⟨M4, fr4⟩
      rw [em, eh, hh, Bool.true_and] at K4
      by_cases he : S4 0 2 = x
      · rw [if_pos (by rw [he])]
        rw [decide_eq_true he, if_pos rfl] at K4
        exact K4
      · rw [if_neg (fun q => he ((nI_eq (by omega) (by omega)).mp q))]
        rw [decide_eq_false he, if_neg (by decide), Nat.add_zero] at K4
        exact K4
theorem cf_shz {x : Int32} {n : Nat} (hn : n ≤ 12) (h : ((x.toUInt32 >>> ((nI n).toUInt32 &&& Int32.toUInt32 31)).toInt32) = 0) : ce_ix x (2 ^ n) = true := by
  obtain ⟨m, hm, rfl⟩ := wb_of32 x
  have hpw := ce_pw hn
  have key : m < 2 ^ n := by
    have hz : m = m % 2 ^ n := by
      apply Nat.eq_of_testBit_eq
      intro j
      rw [Nat.testBit_mod_two_pow]
      by_cases hj : j < n
      · rw [decide_eq_true hj, Bool.true_and]
      · rw [decide_eq_false hj, Bool.false_and]
        by_cases h32 : j < 32
        · have := b_ushr n (by omega) (nI m) (j - n)
          rw [h, b_0, ce_bt _ (by omega), show n + (j - n) = j by omega] at this
          exact this.symm
        · exact cf_low hm (by omega)
    rw [hz]
    exact Nat.mod_lt _ ce_2pos
  exact ce_ix_n key (by omega)
theorem cp_120n (hK : ce_ok D S Y) (hM : cf_M D S Y w I J) {x : Int32} (hx : ce_ix x (2 ^ D 0 2) = false) : cw L w (cd_c 120 [.ref 2, .int x] (cd_mm L w I J)) (cf_post (.int (-1001)) D S Y w I) := by
  refine cw_c (l := [_, _]) rfl rfl ?_
  refine cw_m (fun _ => cd_s120_0) ?_
  rw [hM.1.1.1.2.2.1, if_neg (fun q => by rw [cf_shz hK.1.1.2.2.1 q] at hx; cases hx)]
  refine cw_m (fun _ => cd_s120_18) ?_
  exact cw_ret ⟨rfl, hM, cf_fr.rf⟩
theorem cp_120 (hK : ce_ok D S Y) (hM : cf_M D S Y w I J) {x : Nat} (hx : x < 2 ^ D 0 2) : cw L w (cd_c 120 [.ref 2, .int (nI x)] (cd_mm L w I J)) (cf_post (.int (nI (ce_msk (ce_hp D S x) (D 0 2)))) D S Y w I) := by
  have h12 := hK.1.1.2.2.1
  have hpw := ce_pw h12
  refine cw_c (l := [_, _]) rfl rfl ?_
  refine cw_m (fun _ => cd_s120_0) ?_
  rw [hM.1.1.1.2.2.1, nx_ush (by omega) (by omega), Nat.shiftRight_eq_div_pow, Nat.div_eq_of_lt hx, if_pos (show nI 0 = 0 from rfl)]
  refine cw_ci (cw_mono (cp_119 hK hM hx) ?_)
  intro v I1 J1 ⟨hv, M1, f1⟩
  refine ⟨_, hv, ?_⟩
  refine cw_m (fun _ => cd_s120_18) ?_
  exact cw_ret ⟨rfl, M1, f1⟩
end CGU
