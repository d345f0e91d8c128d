/-! ===== the class: the text, its words and figures ===== -/
/-- figures as the class tells them -/
def cf_val (x : Nat → Nat) (s : Nat) : Nat → Nat
  | 0 => 0
  | i + 1 => if cf_val x s i * 10 + x (s + i) - 48 < 999 then cf_val x s i * 10 + x (s + i) - 48 else 999
theorem cf_val_b {x : Nat → Nat} {s : Nat} : ∀ i, cf_val x s i ≤ 999 := by
  intro i
  cases i with
  | zero => exact Nat.zero_le _
  | succ i =>
    show (if cf_val x s i * 10 + x (s + i) - 48 < 999 then cf_val x s i * 10 + x (s + i) - 48 else 999) ≤ 999
    split <;> omega
theorem cf_val_nm {x : Nat → Nat} {s i : Nat} (hi : i ≤ 2) (hd : ∀ j, j < i → ce_dig (x (s + j)) = true) : cf_val x s i = ce_nm x s i := by
  have dg : ∀ j, j < i → 48 ≤ x (s + j) ∧ x (s + j) ≤ 57 := fun j hj => by
    have := hd j hj
    unfold ce_dig at this
    rw [Bool.and_eq_true, decide_eq_true_eq, decide_eq_true_eq] at this
    exact this
  have one : 0 < i → cf_val x s 1 = x (s + 0) - 48 ∧ ce_nm x s 1 = x (s + 0) - 48 := fun h => by
    have := dg 0 h
    refine ⟨?_, ?_⟩
    · show (if 0 * 10 + x (s + 0) - 48 < 999 then 0 * 10 + x (s + 0) - 48 else 999) = _
      rw [if_pos (by omega)]
      omega
    · have e : ce_nm x s 1 = if 1000 < ce_nm x s 0 then ce_nm x s 0 else 10 * ce_nm x s 0 + x (s + 0) - 48 := rfl
      rw [e, show ce_nm x s 0 = 0 from rfl, if_neg (by omega)]
      omega
  have : i = 0 ∨ i = 1 ∨ i = 2 := by omega
  rcases this with rfl | rfl | rfl
  · rfl
  · rw [(one (by decide)).1, (one (by decide)).2]
  · obtain ⟨o1, o2⟩ := one (by decide)
    have d0 := dg 0 (by decide)
    have d1 := dg 1 (by decide)
    show (if cf_val x s 1 * 10 + x (s + 1) - 48 < 999 then cf_val x s 1 * 10 + x (s + 1) - 48 else 999) = (if 1000 < ce_nm x s 1 then ce_nm x s 1 else 10 * ce_nm x s 1 + x (s + 1) - 48)
    rw [o1, o2, if_pos (by omega), if_neg (by omega)]
    omega
def cf_txt (x : Nat → Nat) (n : Nat) (I : Nat → Nat → Int32) : Prop := I 3 1 = nI n ∧ ∀ j, j < n → I 4 j = nI (x j)
/-- the word, number or sign behind place q is in hand -/
def cf_tok (x : Nat → Nat) (n q : Nat) (I : Nat → Nat → Int32) : Prop := I 3 4 = nI (ce_sk x n q) ∧ (ce_sk x n q < n → ce_let (x (ce_sk x n q)) = true → I 3 3 = nI 1 ∧ I 3 2 = nI (ce_we x n (ce_sk x n q))) ∧ (ce_sk x n q < n → ce_let (x (ce_sk x n q)) = false → ce_dig (x (ce_sk x n q)) = true → I 3 3 = nI 2 ∧ I 3 2 = nI (ce_de x n (ce_sk x n q)) ∧ I 3 5 = nI (cf_val x (ce_sk x n q) (ce_de x n (ce_sk x n q) - ce_sk x n q))) ∧ (ce_sk x n q < n → ce_let (x (ce_sk x n q)) = false → ce_dig (x (ce_sk x n q)) = false → I 3 3 = nI 3 ∧ I 3 2 = nI (ce_sk x n q + 1)) ∧ (¬ ce_sk x n q < n → I 3 3 = nI 0 ∧ I 3 2 = nI (ce_sk x n q))
def cf_K (x : Nat → Nat) (n q : Nat) (I : Nat → Nat → Int32) : Prop := cf_txt x n I ∧ (I 3 7 = nI 0 ∧ I 3 8 = zI (-1)) ∧ cf_tok x n q I
/-- a fault is told -/
def cf_Fl (f p : Nat) (I : Nat → Nat → Int32) : Prop := I 3 7 = nI f ∧ I 3 8 = nI p ∧ 1 ≤ f ∧ f ≤ 5
theorem cf_txt.of {x : Nat → Nat} {n : Nat} {I I1 : Nat → Nat → Int32} (h : cf_txt x n I) (g : ∀ a k, a = 4 ∨ a = 3 ∧ k = 1 → I1 a k = I a k) : cf_txt x n I1 := ⟨(g _ _ (by omega)).trans h.1, fun j hj => (g _ _ (by omega)).trans (h.2 j hj)⟩
theorem cf_tok.of {x : Nat → Nat} {n q : Nat} {I I1 : Nat → Nat → Int32} (h : cf_tok x n q I) (g : ∀ k, k = 2 ∨ k = 3 ∨ k = 4 ∨ k = 5 → I1 3 k = I 3 k) : cf_tok x n q I1 := by
  unfold cf_tok
  rw [g 2 (by omega), g 3 (by omega), g 4 (by omega), g 5 (by omega)]
  exact h
theorem cf_K.of {x : Nat → Nat} {n q : Nat} {I I1 : Nat → Nat → Int32} (h : cf_K x n q I) (g : ∀ a k, a = 4 ∨ a = 3 ∧ k ≠ 6 → I1 a k = I a k) : cf_K x n q I1 := ⟨h.1.of (fun a k x => g a k (by omega)), ⟨(g _ _ (by omega)).trans h.2.1.1, (g _ _ (by omega)).trans h.2.1.2⟩, h.2.2.of (fun k x => g _ _ (by omega))⟩
theorem cf_Fl.of {f p : Nat} {I I1 : Nat → Nat → Int32} (h : cf_Fl f p I) (g : ∀ k, k = 7 ∨ k = 8 → I1 3 k = I 3 k) : cf_Fl f p I1 := ⟨(g _ (by omega)).trans h.1, (g _ (by omega)).trans h.2.1, h.2.2⟩
section CHC
variable {L : Nat} {w : Bool} {I : Nat → Nat → Int32} {J : Nat → Nat → Int64} {D : cd_D} {S : cd_S}
variable {Y : ce_Y} {x : Nat → Nat} {n q : Nat}
theorem cf_bytI (y : Int64) {k : Nat} (hk : k < 8) : (((y.toUInt64 >>> (((8 : Int32) * nI k).toInt64.toUInt64 &&& Int64.toUInt64 63)).toInt64).toInt32) &&& 255 = nI (ce_byt y k) := by
  obtain ⟨m, hm, rfl⟩ := wb_of y
  rw [show (8 : Int32) = nI 8 from rfl, pk_mul, wb_shr hm (by omega), lN_i, show (255 : Int32) = nI (2 ^ 8 - 1) from rfl, fa_mask]
  unfold ce_byt
  rw [wb_tn hm]
theorem cp_12 {b N : Nat} (h1 : I 3 1 = nI N) (hN : N < 500) : cd_c 12 [.ref 3, .int (nI b)] (cd_mm L w I J) = some (none, cd_mm L w (cd_up (cd_up I 4 N (nI b)) 3 1 (nI (N + 1))) J) := by
  refine cd_c_of (l := [_, _]) rfl rfl (cd_s12_0 ?_)
  rw [h1, if_pos (show nI N < 500 from nI_lt (b := 500) hN (by decide)), if_pos (cd_inN hN (by decide)), nI_clamp (by omega), cd_up_a (show (3 : Nat) ≠ 4 by decide), h1, nI_1]
theorem cf_i8_f {x : Int32} (h : (decide (1 ≤ x) && decide (x ≤ 8)) = false) : x < 1 ∨ 8 < x := by
  by_cases h1 : x < 1
  · exact Or.inl h1
  · refine Or.inr ?_
    rw [decide_eq_true (Int32.not_lt.mp h1), Bool.true_and, decide_eq_false_iff_not] at h
    exact Int32.not_le.mp h
theorem cp_13n (hM : cf_M D S Y w I J) {x : Int32} {y : Int64} (hx : (decide (1 ≤ x) && decide (x ≤ 8)) = false) : cw L w (cd_c 13 [.ref 2, .int x, .long y] (cd_mm L w I J)) (cf_post (.int (-1002)) D S Y w I) := by
  refine cw_c (l := [_, _, _, _, _]) rfl rfl ?_
  refine cw_m (fun _ => cd_s13_0) ?_
  refine cw_if (fun _ => cw_ret ⟨rfl, hM, cf_fr.rf⟩) (fun q1 => ?_)
  refine cw_if (fun _ => cw_ret ⟨rfl, hM, cf_fr.rf⟩) (fun q2 => ?_)
  rcases cf_i8_f hx with h | h
  · exact absurd h q1
  · exact absurd h q2
theorem cp_13s (hK : ce_ok D S Y) (hM : cf_M D S Y w I J) {n : Nat} {y : Int64} (h1 : 1 ≤ n) (h8 : n ≤ 8) {Q : Option Value → (Nat → Nat → Int32) → (Nat → Nat → Int64) → Prop} (h : cw L w (if 500 < nI (ceN Y + n) then some (some (.int (-1004)), cd_mm L w I J) else cd_go 13 21 [.ref 2, .int (nI n), .long y, .null, .int (zI ((n : Int) - 1))] [] (cd_mm L w I J)) Q) : cw L w (cd_c 13 [.ref 2, .int (nI n), .long y] (cd_mm L w I J)) Q := by
  refine cw_c (l := [_, _, _, _, _]) rfl rfl ?_
  refine cw_m (fun _ => cd_s13_0) ?_
  rw [if_neg (fun q => by
    have := (nI_ltI (b := 1) (by omega) (by decide)).mp q
    omega), if_neg (fun q => by
    have := (nI_ltI (a := 8) (by decide) (by omega)).mp q
    omega), hM.1.2.2.2.1.1.1, nI_add, ← zI_n n, show (1 : Int32) = zI 1 from rfl, zI_sub, zI_n]
  exact h
theorem cp_13f (hK : ce_ok D S Y) (hM : cf_M D S Y w I J) {n : Nat} {y : Int64} (h1 : 1 ≤ n) (h8 : n ≤ 8) (hf : 500 < ceN Y + n) : cw L w (cd_c 13 [.ref 2, .int (nI n), .long y] (cd_mm L w I J)) (cf_post (.int (-1004)) D S Y w I) := by
  have hN := hK.2.2.1.1
  refine cp_13s hK hM h1 h8 ?_
  rw [if_pos (show (500 : Int32) < nI (ceN Y + n) from nI_lt (a := 500) hf (by omega))]
  exact cw_ret ⟨rfl, hM, cf_fr.rf⟩
theorem cp_13 (hK : ce_ok D S Y) (hM : cf_M D S Y w I J) {n : Nat} {y : Int64} (h1 : 1 ≤ n) (h8 : n ≤ 8) (hf : ceN Y + n ≤ 500) : cw L w (cd_c 13 [.ref 2, .int (nI n), .long y] (cd_mm L w I J)) (cf_post (.int (nI (ceN Y + n))) D S (ceSX Y (ce_fed Y n y) (ceN Y + n)) w I) := by
  have hN := hK.2.2.1.1
  have hU := hK.2.2.1.2.2.2.1
  have hp := cf_ple w
  refine cp_13s hK hM h1 h8 ?_
  rw [if_neg (show ¬ (500 : Int32) < nI (ceN Y + n) from fun q => by
    have := (nI_ltI (a := 500) (by decide) (by omega)).mp q
    omega)]
  refine cw_dn (fun i (I1 : Nat → Nat → Int32) => cd_go 13 21 [.ref 2, .int (nI n), .long y, .null, .int (zI ((i : Int) - 1))] [] (cd_mm L w I1 J)) (fun i I1 => i ≤ n ∧ (∀ a k, ¬ (a = 4 ∨ a = 3 ∧ k = 1) → I1 a k = I a k) ∧ I1 3 1 = nI (ceN Y + (n - i)) ∧ ∀ j, j < ceN Y + (n - i) → I1 4 j = nI (ce_fed Y n y j)) ?_ ?_ n I ⟨Nat.le_refl _, fun _ _ _ => rfl, by rw [Nat.sub_self]; exact hM.1.2.2.2.1.1.1, fun j hj => ?_⟩
  · intro I1 ⟨_, f1, g1, g2⟩
    rw [Nat.sub_zero] at g1 g2
    refine cw_m (fun _ => cd_s13_21) ?_
    rw [if_pos (show zI (((0 : Nat) : Int) - 1) < 0 by decide), g1]
    obtain ⟨⟨a, b, c, ⟨d1, d2, d3, d4, d5⟩, e⟩, g⟩ := hM
    refine cw_ret ⟨rfl, ⟨⟨a.of (fun a k x1 x2 => f1 a k (by omega)) (fun _ => rfl), b.of (fun a k x1 x2 => f1 a k (by omega)), (f1 _ _ (by omega)).trans c, ⟨⟨g1, (f1 _ _ (by omega)).trans d1.2.1, (f1 _ _ (by omega)).trans d1.2.2⟩, g2, fun i hi k hk => ?_, ⟨(f1 _ _ (by omega)).trans d4.1, fun j hj => ⟨(f1 _ _ (by omega)).trans (d4.2 j hj).1, (f1 _ _ (by omega)).trans (d4.2 j hj).2⟩⟩, fun i hi => ⟨(f1 _ _ (by omega)).trans (d5 i hi).1, fun hb => ⟨((d5 i hi).2 hb).1.of (fun a k x1 x2 => f1 a k (by omega)), (f1 _ _ (by omega)).trans ((d5 i hi).2 hb).2⟩⟩⟩, e.of (fun k _ => f1 _ _ (by omega)) (fun _ => rfl)⟩, g.of (fun a k x1 x2 => f1 a k (by omega)) (fun _ => rfl)⟩, fun a k h => f1 a k (by omega)⟩
    have hi4 : i < 4 := Nat.lt_of_lt_of_le hi hU
    exact (f1 _ _ (by omega)).trans (d3 i hi k hk)
  · intro i I1 ⟨hi, f1, g1, g2⟩ K
    refine cw_m (fun _ => cd_s13_21) ?_
    rw [show ((i + 1 : Nat) : Int) - 1 = (i : Int) by omega, zI_n, if_neg (nI_pos (by omega)), cf_bytI y (by omega), cp_12 g1 (by omega), cw_bv]
    refine cw_m (fun _ => cd_s13_34) ?_
    rw [show nI i + (-1) = zI ((i : Int) - 1) by
      rw [← zI_n, show (-1 : Int32) = zI (-1) from rfl, zI_add]
      rfl]
    refine K _ ⟨by omega, fun a k hn => ?_, ?_, fun j hj => ?_⟩
    · rw [cd_up_k2 (by omega), cd_up_a (by omega)]
      exact f1 a k hn
    · rw [cd_up_s]
      congr 1
      omega
    · rw [cd_up_a (by decide)]
      by_cases hj2 : j = ceN Y + (n - (i + 1))
      · subst hj2
        rw [cd_up_s]
        unfold ce_fed
        rw [if_neg (by omega)]
        congr 2
        omega
      · rw [cd_up_k hj2]
        exact g2 j (by omega)
  · rw [Nat.sub_self] at hj
    have hj : j < ceN Y := hj
    unfold ce_fed
    rw [if_pos hj]
    exact hM.1.2.2.2.1.2.1 j hj
theorem cp_14 {c : Nat} (hc : c < 2 ^ 31) : cd_c 14 [.int (nI c)] (cd_mm L w I J) = some (some (.int (cd_tf (ce_let c))), cd_mm L w I J) := by
  refine cd_c_of (l := [_]) rfl rfl (cd_s14_0 ?_)
  unfold ce_let
  by_cases h1 : c < 97
  · rw [if_pos (show nI c < 97 from nI_lt (b := 97) h1 (by decide)), decide_eq_false (by omega)]
    rfl
  · rw [if_neg (show ¬ nI c < 97 from fun q => h1 ((nI_ltI (b := 97) hc (by decide)).mp q)), decide_eq_true (show 97 ≤ c by omega), Bool.true_and]
    by_cases h2 : 122 < c
    · rw [if_pos (show (122 : Int32) < nI c from nI_lt (a := 122) h2 hc), decide_eq_false (by omega)]
      rfl
    · rw [if_neg (show ¬ (122 : Int32) < nI c from fun q => h2 ((nI_ltI (a := 122) (by decide) hc).mp q)), decide_eq_true (by omega)]
      rfl
theorem cp_15 {c : Nat} (hc : c < 2 ^ 31) : cd_c 15 [.int (nI c)] (cd_mm L w I J) = some (some (.int (cd_tf (ce_dig c))), cd_mm L w I J) := by
  refine cd_c_of (l := [_]) rfl rfl (cd_s15_0 ?_)
  unfold ce_dig
  by_cases h1 : c < 48
  · rw [if_pos (show nI c < 48 from nI_lt (b := 48) h1 (by decide)), decide_eq_false (by omega)]
    rfl
  · rw [if_neg (show ¬ nI c < 48 from fun q => h1 ((nI_ltI (b := 48) hc (by decide)).mp q)), decide_eq_true (show 48 ≤ c by omega), Bool.true_and]
    by_cases h2 : 57 < c
    · rw [if_pos (show (57 : Int32) < nI c from nI_lt (a := 57) h2 hc), decide_eq_false (by omega)]
      rfl
    · rw [if_neg (show ¬ (57 : Int32) < nI c from fun q => h2 ((nI_ltI (a := 57) (by decide) hc).mp q)), decide_eq_true (by omega)]
      rfl
theorem cp_16 (hn : n ≤ 500) (hx : ∀ k, x k < 256) (ht : cf_txt x n I) (hq : q ≤ n) (h2 : I 3 2 = nI q) : cw L w (cd_c 16 [.ref 3] (cd_mm L w I J)) (fun v I1 J1 => v = none ∧ J1 = J ∧ (∀ a k, ¬ (a = 3 ∧ 2 ≤ k ∧ k ≤ 5) → I1 a k = I a k) ∧ cf_tok x n q I1) := by
  refine cw_c (l := [_]) rfl rfl ?_
  generalize hs : ce_sk x n q = s
  have hsb := ce_end_b (p := fun k => !decide (x k = 32)) hq
  rw [show ce_end (fun k => !decide (x k = 32)) n q = s from hs] at hsb
  -- the token
  have tok : ∀ I1 : Nat → Nat → Int32, (∀ a k, ¬ (a = 3 ∧ k = 2) → I1 a k = I a k) → I1 3 2 = nI s → cw L w (cd_go 16 19 [.ref 3] [] (cd_mm L w I1 J)) (fun v I1 J1 => v = none ∧ J1 = J ∧ (∀ a k, ¬ (a = 3 ∧ 2 ≤ k ∧ k ≤ 5) → I1 a k = I a k) ∧ cf_tok x n q I1) := by
    intro I1 f1 g1
    refine cw_m (fun _ => cd_s16_19) ?_
    rw [g1]
    generalize hI2 : cd_up (cd_up I1 3 4 (nI s)) 3 5 0 = I2
    have f2 : ∀ a k, ¬ (a = 3 ∧ (k = 2 ∨ k = 4 ∨ k = 5)) → I2 a k = I a k := fun a k h => by rw [← hI2, cd_up_k2 (by omega), cd_up_k2 (by omega), f1 a k (by omega)]
    have g22 : I2 3 2 = nI s := by rw [← hI2, cd_up_k (by decide), cd_up_k (by decide)]; exact g1
    have g24 : I2 3 4 = nI s := by rw [← hI2, cd_up_k (by decide), cd_up_s]
    have g25 : I2 3 5 = nI 0 := by rw [← hI2, cd_up_s]; rfl
    have e1 : I2 3 1 = nI n := (f2 _ _ (by omega)).trans ht.1
    clear hI2
    rw [g22, e1]
    by_cases hsn : s < n
    · have hin : cd_in (nI s) 500 = true := cd_inN (by omega) (by decide)
      have hxs := hx s
      have e4 : ∀ (I3 : Nat → Nat → Int32), (∀ a k, ¬ (a = 3 ∧ 2 ≤ k ∧ k ≤ 5) → I3 a k = I a k) → ∀ j, j < n → I3 4 j = nI (x j) := fun I3 f3 j hj => (f3 _ _ (by omega)).trans (ht.2 j hj)
      rw [if_pos (nI_lt hsn (by omega)), if_pos hin, nI_clamp (by omega), e4 I2 (fun a k h => f2 a k (by omega)) s hsn, cp_14 (by omega), cw_bi]
      refine cw_m (fun _ => cd_s16_41) ?_
      cases hl : ce_let (x s) with
      | true =>
        rw [if_neg (show ¬ cd_tf true = 0 by decide)]
        -- a word
        have wend : ce_end (fun k => !ce_let (x k)) n s = ce_we x n s := rfl
        refine cw_up (L := L) (w := w) (Q := fun v I1 J1 => v = none ∧ J1 = J ∧ (∀ a k, ¬ (a = 3 ∧ 2 ≤ k ∧ k ≤ 5) → I1 a k = I a k) ∧ cf_tok x n q I1) (fun i (I3 : Nat → Nat → Int32) => cd_go 16 45 [.ref 3] [] (cd_mm L w I3 J)) (fun i I3 => s ≤ i ∧ (∀ a k, ¬ (a = 3 ∧ 2 ≤ k ∧ k ≤ 5) → I3 a k = I a k) ∧ I3 3 2 = nI i ∧ I3 3 3 = nI 1 ∧ I3 3 4 = nI s ∧ ce_we x n s = ce_end (fun k => !ce_let (x k)) n i) n ?_ ?_ s (cd_up I2 3 3 1) (by omega) ⟨Nat.le_refl _, fun a k h => by rw [cd_up_k2 (by omega), f2 a k (by omega)], by rw [cd_up_k (by decide)]; exact g22, by rw [cd_up_s]; rfl, by rw [cd_up_k (by decide)]; exact g24, rfl⟩
        · intro I3 ⟨_, f3, h32, h33, h34, he⟩
          refine cw_m (fun _ => cd_s16_45) ?_
          rw [h32, show I3 3 1 = nI n from (f3 _ _ (by omega)).trans ht.1, if_neg (fun q => Int32.lt_irrefl q)]
          rw [ce_end_n] at he
          refine cw_ret ⟨rfl, rfl, f3, ?_⟩
          unfold cf_tok
          rw [hs]
          exact ⟨h34, fun _ _ => ⟨h33, by rw [he]; exact h32⟩, fun _ h => by rw [hl] at h; (cases h), fun _ h => by rw [hl] at h; (cases h), fun h => absurd hsn h⟩
        · intro i I3 hi ⟨hsi, f3, h32, h33, h34, he⟩ K
          have hxi := hx i
          refine cw_m (fun _ => cd_s16_45) ?_
          rw [ce_end_st hi] at he
          rw [h32, show I3 3 1 = nI n from (f3 _ _ (by omega)).trans ht.1, if_pos (nI_lt hi (by omega)), if_pos (cd_inN (by omega) (by decide)), nI_clamp (by omega), e4 I3 f3 i hi, cp_14 (by omega), cw_bi]
          refine cw_m (fun _ => cd_s16_56) ?_
          cases hli : ce_let (x i) with
          | false =>
            rw [if_pos (show cd_tf false = 0 from rfl)]
            rw [hli, Bool.not_false, if_pos rfl] at he
            refine cw_ret ⟨rfl, rfl, f3, ?_⟩
            unfold cf_tok
            rw [hs]
            exact ⟨h34, fun _ _ => ⟨h33, by rw [he]; exact h32⟩, fun _ h => by rw [hl] at h; (cases h), fun _ h => by rw [hl] at h; (cases h), fun h => absurd hsn h⟩
          | true =>
            rw [if_neg (show ¬ cd_tf true = 0 by decide), h32, nI_1]
            rw [hli, Bool.not_true, if_neg (by decide)] at he
            exact K _ ⟨by omega, fun a k h => by rw [cd_up_k2 (by omega)]; exact f3 a k h, cd_up_s, by rw [cd_up_k (by decide)]; exact h33, by rw [cd_up_k (by decide)]; exact h34, he⟩
      | false =>
        rw [if_pos (show cd_tf false = 0 from rfl), g22, if_pos hin, nI_clamp (by omega), e4 I2 (fun a k h => f2 a k (by omega)) s hsn, cp_15 (by omega), cw_bi]
        refine cw_m (fun _ => cd_s16_70) ?_
        cases hd : ce_dig (x s) with
        | false =>
          rw [if_pos (show cd_tf false = 0 from rfl), cd_up_k (by decide), g22, nI_1]
          refine cw_ret ⟨rfl, rfl, fun a k h => by rw [cd_up_k2 (by omega), cd_up_k2 (by omega), f2 a k (by omega)], ?_⟩
          unfold cf_tok
          rw [hs]
          exact ⟨by rw [cd_up_k (by decide), cd_up_k (by decide)]; exact g24, fun _ h => by rw [hl] at h; (cases h), fun _ _ h => by rw [hd] at h; (cases h), fun _ _ _ => ⟨by rw [cd_up_k (by decide), cd_up_s]; rfl, cd_up_s⟩, fun h => absurd hsn h⟩
        | true =>
          rw [if_neg (show ¬ cd_tf true = 0 by decide)]
          -- figures
          refine cw_up (L := L) (w := w) (Q := fun v I1 J1 => v = none ∧ J1 = J ∧ (∀ a k, ¬ (a = 3 ∧ 2 ≤ k ∧ k ≤ 5) → I1 a k = I a k) ∧ cf_tok x n q I1) (fun i (I3 : Nat → Nat → Int32) => cd_go 16 74 [.ref 3] [] (cd_mm L w I3 J)) (fun i I3 => s ≤ i ∧ (∀ a k, ¬ (a = 3 ∧ 2 ≤ k ∧ k ≤ 5) → I3 a k = I a k) ∧ I3 3 2 = nI i ∧ I3 3 3 = nI 2 ∧ I3 3 4 = nI s ∧ I3 3 5 = nI (cf_val x s (i - s)) ∧ ce_de x n s = ce_end (fun k => !ce_dig (x k)) n i) n ?_ ?_ s (cd_up I2 3 3 2) (by omega) ⟨Nat.le_refl _, fun a k h => by rw [cd_up_k2 (by omega), f2 a k (by omega)], by rw [cd_up_k (by decide)]; exact g22, by rw [cd_up_s]; rfl, by rw [cd_up_k (by decide)]; exact g24, by rw [cd_up_k (by decide), Nat.sub_self]; exact g25, rfl⟩
          · intro I3 ⟨_, f3, h32, h33, h34, h35, he⟩
            refine cw_m (fun _ => cd_s16_74) ?_
            rw [h32, show I3 3 1 = nI n from (f3 _ _ (by omega)).trans ht.1, if_neg (fun q => Int32.lt_irrefl q)]
            rw [ce_end_n] at he
            refine cw_ret ⟨rfl, rfl, f3, ?_⟩
            unfold cf_tok
            rw [hs]
            exact ⟨h34, fun _ h => by rw [hl] at h; (cases h), fun _ _ _ => ⟨h33, by rw [he]; exact h32, by rw [he]; exact h35⟩, fun _ _ h => by rw [hd] at h; (cases h), fun h => absurd hsn h⟩
          · intro i I3 hi ⟨hsi, f3, h32, h33, h34, h35, he⟩ K
            have hxi := hx i
            have hvb := cf_val_b (x := x) (s := s) (i - s)
            refine cw_m (fun _ => cd_s16_74) ?_
            rw [ce_end_st hi] at he
            rw [h32, show I3 3 1 = nI n from (f3 _ _ (by omega)).trans ht.1, if_pos (nI_lt hi (by omega)), if_pos (cd_inN (by omega) (by decide)), nI_clamp (by omega), e4 I3 f3 i hi, cp_15 (by omega), cw_bi]
            refine cw_m (fun _ => cd_s16_85) ?_
            cases hdi : ce_dig (x i) with
            | false =>
              rw [if_pos (show cd_tf false = 0 from rfl)]
              rw [hdi, Bool.not_false, if_pos rfl] at he
              refine cw_ret ⟨rfl, rfl, f3, ?_⟩
              unfold cf_tok
              rw [hs]
              exact ⟨h34, fun _ h => by rw [hl] at h; (cases h), fun _ _ _ => ⟨h33, by rw [he]; exact h32, by rw [he]; exact h35⟩, fun _ _ h => by rw [hd] at h; (cases h), fun h => absurd hsn h⟩
            | true =>
              have d48 : 48 ≤ x i := by
                unfold ce_dig at hdi
                rw [Bool.and_eq_true, decide_eq_true_eq] at hdi
                exact hdi.1
              rw [hdi, Bool.not_true, if_neg (by decide)] at he
              have ev : (nI (cf_val x s (i - s)) * 10 + nI (x i)) - 48 = nI (cf_val x s (i - s) * 10 + x i - 48) := by
                rw [show (10 : Int32) = nI 10 from rfl, pk_mul, nI_add, show (48 : Int32) = nI 48 from rfl, cw_subc (by omega)]
              have ev2 : (if nI (cf_val x s (i - s) * 10 + x i - 48) < (999 : Int32) then nI (cf_val x s (i - s) * 10 + x i - 48) else (999 : Int32)) = nI (cf_val x s (i + 1 - s)) := by
                rw [show i + 1 - s = (i - s) + 1 by omega]
                show _ = nI (if cf_val x s (i - s) * 10 + x (s + (i - s)) - 48 < 999 then cf_val x s (i - s) * 10 + x (s + (i - s)) - 48 else 999)
                rw [show s + (i - s) = i by omega]
                by_cases h : cf_val x s (i - s) * 10 + x i - 48 < 999
                · rw [if_pos (show nI (cf_val x s (i - s) * 10 + x i - 48) < 999 from nI_lt (b := 999) h (by decide)), if_pos h]
                · rw [if_neg (show ¬ nI (cf_val x s (i - s) * 10 + x i - 48) < 999 from fun q => h ((nI_ltI (b := 999) (by omega) (by decide)).mp q)), if_neg h]
                  rfl
              rw [if_neg (show ¬ cd_tf true = 0 by decide), h32, if_pos (cd_inN (by omega) (by decide)), nI_clamp (by omega), e4 I3 f3 i hi, h35, ev, ev2, cd_up_k (by decide), h32, nI_1]
              exact K _ ⟨by omega, fun a k h => by rw [cd_up_k2 (by omega), cd_up_k2 (by omega)]; exact f3 a k h, cd_up_s, by rw [cd_up_k (by decide), cd_up_k (by decide)]; exact h33, by rw [cd_up_k (by decide), cd_up_k (by decide)]; exact h34, by rw [cd_up_k (by decide), cd_up_s], he⟩
    · have : s = n := by omega
      subst this
      rw [if_neg (fun q => Int32.lt_irrefl q)]
      refine cw_ret ⟨rfl, rfl, fun a k h => by rw [cd_up_k2 (by omega), f2 a k (by omega)], ?_⟩
      unfold cf_tok
      rw [hs]
      exact ⟨by rw [cd_up_k (by decide)]; exact g24, fun h => absurd h (Nat.lt_irrefl _), fun h => absurd h (Nat.lt_irrefl _), fun h => absurd h (Nat.lt_irrefl _), fun _ => ⟨by rw [cd_up_s]; rfl, by rw [cd_up_k (by decide)]; exact g22⟩⟩
  -- blanks
  refine cw_up (L := L) (w := w) (Q := fun v I1 J1 => v = none ∧ J1 = J ∧ (∀ a k, ¬ (a = 3 ∧ 2 ≤ k ∧ k ≤ 5) → I1 a k = I a k) ∧ cf_tok x n q I1) (fun i (I3 : Nat → Nat → Int32) => cd_go 16 0 [.ref 3] [] (cd_mm L w I3 J)) (fun i I3 => (∀ a k, ¬ (a = 3 ∧ k = 2) → I3 a k = I a k) ∧ I3 3 2 = nI i ∧ s = ce_end (fun k => !decide (x k = 32)) n i) n ?_ ?_ q I hq ⟨fun _ _ _ => rfl, h2, hs.symm⟩
  · intro I3 ⟨f3, h32, he⟩
    refine cw_m (fun _ => cd_s16_0) ?_
    rw [h32, show I3 3 1 = nI n from (f3 _ _ (by omega)).trans ht.1, if_neg (fun q => Int32.lt_irrefl q)]
    rw [ce_end_n] at he
    exact tok I3 f3 (by rw [he]; exact h32)
  · intro i I3 hi ⟨f3, h32, he⟩ K
    have hxi := hx i
    refine cw_m (fun _ => cd_s16_0) ?_
    rw [ce_end_st hi] at he
    rw [h32, show I3 3 1 = nI n from (f3 _ _ (by omega)).trans ht.1, if_pos (nI_lt hi (by omega)), if_pos (cd_inN (by omega) (by decide)), nI_clamp (by omega), show I3 4 i = nI (x i) from (f3 _ _ (by omega)).trans (ht.2 i hi), nI_1]
    by_cases h32x : x i = 32
    · rw [if_pos (show nI (x i) = 32 by rw [h32x]; rfl)]
      rw [decide_eq_true h32x, Bool.not_true, if_neg (by decide)] at he
      exact K _ ⟨fun a k h => by rw [cd_up_k2 h]; exact f3 a k h, cd_up_s, he⟩
    · rw [if_neg (show ¬ nI (x i) = 32 from fun q => h32x ((nI_eq (b := 32) (by omega) (by decide)).mp q))]
      rw [decide_eq_false h32x, Bool.not_false, if_pos rfl] at he
      exact tok I3 f3 (by rw [he]; exact h32)
end CHC
