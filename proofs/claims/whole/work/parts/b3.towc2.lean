/-! ===== the class: towers ===== -/
section CHB
variable {L : Nat} {w : Bool} {I : Nat → Nat → Int32} {J : Nat → Nat → Int64} {D : cd_D} {S : cd_S}
variable {Y : ce_Y} {p : Nat}
/-- weights, heights and piles of the sets below m -/
def cf_tw (D : cd_D) (m : Nat) (I : Nat → Nat → Int32) : Prop := ∀ s, s < m → s < 2 ^ D 0 0 → I 33 s = nI (ce_wt D s) ∧ I 34 s = nI (ce_ht D s) ∧ I 35 s = cd_tf (ce_pile D s)
theorem cp_125 (hp : p = 66 ∨ p = 83) (hD : cd_okD D) (hP : cf_P D p I J) {m : Nat} (hm : m < 2 ^ D 0 0) : cw L w (cd_c 125 [.ref 32, .ref p, .int (nI m)] (cd_mm L w I J)) (fun v I1 J1 => v = none ∧ J1 = J ∧ (∀ a j, ¬ ((a = 33 ∨ a = 34) ∧ j = m) → I1 a j = I a j) ∧ I1 33 m = nI (ce_wt D m) ∧ I1 34 m = nI (ce_ht D m)) := by
  have h8 := hD.1.1
  have hpw := ce_pwt h8
  have hin : cd_in (nI m) 256 = true := cd_inN (by omega) (by decide)
  refine cw_c (l := [.ref 32, .ref p, .int (nI m), .null]) (by rcases hp with rfl | rfl <;> rfl) (by rcases hp with rfl | rfl <;> rfl) ?_
  refine cw_m (fun _ => cd_s125_0 hp) ?_
  rw [if_pos hin, if_pos hin, nI_clamp (by omega)]
  refine cw_up (L := L) (w := w) (Q := fun v I1 J1 => v = none ∧ J1 = J ∧ (∀ a j, ¬ ((a = 33 ∨ a = 34) ∧ j = m) → I1 a j = I a j) ∧ I1 33 m = nI (ce_wt D m) ∧ I1 34 m = nI (ce_ht D m)) (fun t (I1 : Nat → Nat → Int32) => cd_go 125 12 [.ref 32, .ref p, .int (nI m), .int (nI t)] [] (cd_mm L w I1 J)) (fun t I1 => (∀ a j, ¬ ((a = 33 ∨ a = 34) ∧ j = m) → I1 a j = I a j) ∧ I1 33 m = nI (ce_su D 2 m t) ∧ I1 34 m = nI (ce_su D 1 m t)) (D 0 0) ?_ ?_ 0 (cd_up (cd_up I 33 m 0) 34 m 0) (Nat.zero_le _) ⟨fun a j hn => by rw [cd_up_k2 (by omega), cd_up_k2 (by omega)], by rw [cd_up_a (by decide), cd_up_s]; rfl, by rw [cd_up_s]; rfl⟩
  · intro I1 ⟨f1, g1, g2⟩
    refine cw_m (fun _ => cd_s125_12 hp) ?_
    rw [f1 _ _ (by omega), hP.1.1, if_neg (fun q => Int32.lt_irrefl q)]
    exact cw_ret ⟨rfl, rfl, f1, g1, g2⟩
  · intro t I1 ht ⟨f1, g1, g2⟩ K
    have hb := nx_bit (k := m) (j := t) (by omega) (by omega)
    have e2 : ∀ r, ce_su D r m (t + 1) = ce_su D r m t + if m.testBit t then D r t else 0 := fun r => rfl
    refine cw_m (fun _ => cd_s125_12 hp) ?_
    rw [f1 _ _ (by omega), hP.1.1, if_pos (nI_lt ht (by omega)), nI_1]
    cases hu : m.testBit t with
    | false =>
      rw [if_pos (hb.mpr hu)]
      refine K I1 ⟨f1, ?_, ?_⟩
      · rw [e2, hu]; exact g1
      · rw [e2, hu]; exact g2
    | true =>
      have hin8 : cd_in (nI t) 8 = true := cd_inN (by omega) (by decide)
      have q1 : ∀ x, cd_up I1 33 m x 34 m = I1 34 m := fun x => cd_up_a (by decide)
      have q2 : ∀ x, cd_up I1 33 m x (p + 1) t = I (p + 1) t := fun x => (cd_up_a (by omega)).trans (f1 _ _ (by omega))
      rw [if_neg (fun q => by rw [hb.mp q] at hu; cases hu), if_pos hin, if_pos hin8, if_pos hin, if_pos hin, if_pos hin8, if_pos hin, nI_clamp (by omega), nI_clamp (by omega), q1, q2, f1 (p + 2) _ (by omega), g1, g2, (hP.2.1 t ht).1, (hP.2.1 t ht).2.1, nI_add, nI_add]
      refine K _ ⟨fun a j hn => ?_, ?_, ?_⟩
      · rw [cd_up_k2 (by omega), cd_up_k2 (by omega)]
        exact f1 a j hn
      · rw [cd_up_a (by decide), cd_up_s, e2, hu]
        rfl
      · rw [cd_up_s, e2, hu]
        rfl
theorem cf_cb_eq {t m : Nat} : ce_cb D t m = (m.testBit t && (ce_B D t (m ^^^ 2 ^ t) && ce_pile D (m ^^^ 2 ^ t))) := rfl
theorem cp_126 (hp : p = 66 ∨ p = 83) (hD : cd_okD D) (hP : cf_P D p I J) {m : Nat} (hm : m < 2 ^ D 0 0) (ht : cf_tw D m I) : cd_c 126 [.ref 32, .ref p, .int (nI m)] (cd_mm L w I J) = some (some (.int (cd_oi (cf_lo D m))), cd_mm L w I J) := by
  have h8 := hD.1.1
  have hpw := ce_pwt h8
  refine cw_eq (cw_c (l := [.ref 32, .ref p, .int (nI m), .null, .null]) (by rcases hp with rfl | rfl <;> rfl) (by rcases hp with rfl | rfl <;> rfl) ?_)
  refine cw_m (fun _ => cd_s126_0 hp) ?_
  refine cw_up (L := L) (w := w) (Q := fun v2 I2 J2 => v2 = some (.int (cd_oi (cf_lo D m))) ∧ I2 = I ∧ J2 = J) (fun i (y : Value) => cd_go 126 2 [.ref 32, .ref p, .int (nI m), .int (nI i), y] [] (cd_mm L w I J)) (fun i _ => cf_lo D m = ce_fst (fun t => ce_cb D t m) (D 0 0 - i) i) (D 0 0) ?_ ?_ 0 .null (Nat.zero_le _) rfl
  · intro y he
    refine cw_m (fun _ => cd_s126_2 hp) ?_
    rw [hP.1.1, if_neg (fun q => Int32.lt_irrefl q), he, Nat.sub_self]
    exact cw_ret ⟨rfl, rfl, rfl⟩
  · intro i y hi he K
    rw [ce_fst_st hi, cf_cb_eq] at he
    refine cw_m (fun _ => cd_s126_2 hp) ?_
    rw [hP.1.1, if_pos (nI_lt hi (by omega)), show (1 : Int32) <<< (nI i &&& 31) = nI (2 ^ i) from cw_sh1 (by omega), show (-1 : Int32) = zI (-1) from rfl, cw_andn, nI_1]
    have hle := ce_an_le m (2 ^ i)
    cases hu : m.testBit i with
    | false =>
      have e : ce_an m (2 ^ i) = m := by
        apply Nat.eq_of_testBit_eq
        intro j
        rw [ce_an_tb, ce_2tb]
        by_cases hij : i = j
        · subst hij; rw [hu]; rfl
        · rw [decide_eq_false hij, Bool.not_false, Bool.and_true]
      rw [e, if_pos rfl]
      refine K _ ?_
      rw [he, hu, Bool.false_and, if_neg (by decide)]
    | true =>
      have e := ce_an1 hu
      have hlt := ce_xor_lt hu
      rw [hu, Bool.true_and] at he
      obtain ⟨t1, t2, t3⟩ := ht (m ^^^ 2 ^ i) hlt (by omega)
      have hwb := ce_wt_b hD (m ^^^ 2 ^ i)
      have hw := (hD.2.1 i hi).2.2
      have hin : cd_in (nI (m ^^^ 2 ^ i)) 256 = true := cd_inN (by omega) (by decide)
      rw [e, if_neg (fun q => by
        have := (nI_eq (by omega) (by omega)).mp q
        omega), if_pos hin, nI_clamp (by omega), t3]
      cases hpl : ce_pile D (m ^^^ 2 ^ i) with
      | false =>
        rw [if_pos (show cd_tf false = 0 from rfl)]
        refine K _ ?_
        rw [he, hpl, Bool.and_false, if_neg (by decide)]
      | true =>
        rw [hpl, Bool.and_true] at he
        have eB : ce_B D i (m ^^^ 2 ^ i) = decide (ce_wt D (m ^^^ 2 ^ i) ≤ 3 * D 2 i) := rfl
        rw [if_neg (show ¬ cd_tf true = 0 by decide), if_pos hin, if_pos (cd_inN (by omega) (by decide)), t1, nI_clamp (by omega), (hP.2.1 i hi).2.1, show (3 : Int32) = nI 3 from rfl, pk_mul]
        by_cases hl : 3 * D 2 i < ce_wt D (m ^^^ 2 ^ i)
        · rw [if_pos (nI_lt hl (by omega))]
          refine K _ ?_
          rw [he, eB, decide_eq_false (by omega), if_neg (by decide)]
        · rw [if_neg (fun q => hl ((nI_ltI (by omega) (by omega)).mp q))]
          rw [eB, decide_eq_true (by omega), if_pos rfl] at he
          rw [he]
          exact cw_ret ⟨rfl, rfl, rfl⟩
/-- a row stands in its cells -/
def cf_rw (B : List Nat) (a : Nat) (I : Nat → Nat → Int32) : Prop := ∀ j, j < B.length → I a j = nI (B.getD j 0)
theorem cp_127 {G B : List Nat} (hG : cf_rw G 36 I) (hB : cf_rw B 37 I) (h5 : I 32 5 = nI B.length) (hg8 : G.length ≤ 8) (hb8 : B.length ≤ 8) (hg : ∀ j, j < G.length → G.getD j 0 < 8) (hb : ∀ j, j < B.length → B.getD j 0 < 8) : cd_c 127 [.ref 32, .int (nI G.length)] (cd_mm L w I J) = some (some (.int (cd_tf (cf_ah G B))), cd_mm L w I J) := by
  refine cw_eq (cw_c (l := [_, _, _]) rfl rfl ?_)
  refine cw_m (fun _ => cd_s127_0) ?_
  have gd : ∀ (l : List Nat) j, (hj : j < l.length) → l.getD j 0 = l[j] := fun l j hj => by
    rw [List.getD_eq_getElem?_getD, List.getElem?_eq_getElem hj]
    rfl
  refine cw_up (L := L) (w := w) (Q := fun v2 I2 J2 => v2 = some (.int (cd_tf (cf_ah G B))) ∧ I2 = I ∧ J2 = J) (fun i (_ : Unit) => cd_go 127 2 [.ref 32, .int (nI G.length), .int (nI i)] [] (cd_mm L w I J)) (fun i _ => i ≤ B.length ∧ cf_ah G B = cf_ah (G.drop i) (B.drop i)) G.length ?_ ?_ 0 () (Nat.zero_le _) ⟨Nat.zero_le _, rfl⟩
  · intro _ ⟨_, he⟩
    refine cw_m (fun _ => cd_s127_2) ?_
    rw [if_neg (fun q => Int32.lt_irrefl q), he, List.drop_length]
    exact cw_ret ⟨rfl, rfl, rfl⟩
  · intro i _ hi ⟨hib, he⟩ K
    refine cw_m (fun _ => cd_s127_2) ?_
    rw [if_pos (nI_lt hi (by omega)), h5]
    by_cases hb2 : i < B.length
    · rw [List.drop_eq_getElem_cons hi, List.drop_eq_getElem_cons hb2] at he
      replace he : cf_ah G B = if G[i] = B[i] then cf_ah (G.drop (i + 1)) (B.drop (i + 1)) else decide (G[i] < B[i]) := he
      have hin : cd_in (nI i) 8 = true := cd_inN (by omega) (by decide)
      have e1 := hG i hi
      have e2 := hB i hb2
      have l1 := hg i hi
      have l2 := hb i hb2
      rw [gd G i hi] at e1 l1
      rw [gd B i hb2] at e2 l2
      rw [if_pos (nI_lt hb2 (by omega)), if_pos hin, if_pos hin, if_pos hin, if_pos hin, nI_clamp (by omega), e1, e2, nI_1]
      by_cases heq : G[i] = B[i]
      · rw [if_pos (by rw [heq])]
        rw [if_pos heq] at he
        exact K () ⟨hb2, he⟩
      · rw [if_neg (fun q => heq ((nI_eq (by omega) (by omega)).mp q))]
        rw [if_neg heq] at he
        by_cases hl : G[i] < B[i]
        · rw [if_pos (nI_lt hl (by omega)), he, decide_eq_true hl]
          exact cw_ret ⟨rfl, rfl, rfl⟩
        · rw [if_neg (fun q => hl ((nI_ltI (by omega) (by omega)).mp q)), he, decide_eq_false hl]
          exact cw_ret ⟨rfl, rfl, rfl⟩
    · have hbi : B.length = i := by omega
      rw [hbi, if_neg (fun q => Int32.lt_irrefl q), he, ← hbi, List.drop_length, hbi, List.drop_eq_getElem_cons hi]
      exact cw_ret ⟨rfl, rfl, rfl⟩
theorem cf_gl_b : ∀ f s, ∀ j, j < (cf_gl D f s).length → (cf_gl D f s).getD j 0 < D 0 0 := by
  intro f
  induction f with
  | zero => intro s j hj; exact absurd hj (Nat.not_lt_zero j)
  | succ f ih =>
    intro s j hj
    have e : cf_gl D (f + 1) s = match cf_lo D s with
      | none => []
      | some t => t :: cf_gl D f (s ^^^ 2 ^ t) := rfl
    rw [e] at hj ⊢
    cases hl : cf_lo D s with
    | none => rw [hl] at hj; exact absurd hj (Nat.not_lt_zero j)
    | some t =>
      rw [hl] at hj
      obtain ⟨_, g2, _, _⟩ := ce_fst_some hl
      cases j with
      | zero => show t < D 0 0; omega
      | succ j =>
        exact ih _ j (by
          replace hj : j + 1 < (cf_gl D f (s ^^^ 2 ^ t)).length + 1 := hj
          omega)
/-- what the row so far is -/
def cf_bt (D : cd_D) (m T : Nat) (B : List Nat) : Prop := (∃ s, s < 2 ^ D 0 0 ∧ ce_pile D s = true ∧ B = cf_gl D 8 s ∧ ce_ht D s = T) ∧ ∀ s, s < m → s < 2 ^ D 0 0 → ce_pile D s = true → ce_ht D s = T → cf_ah (cf_gl D 8 s) B = false
theorem cf_gl_len (hD : cd_okD D) {s : Nat} (hs : s < 2 ^ D 0 0) (hp : ce_pile D s = true) : (cf_gl D 8 s).length ≤ 8 := by
  have h8 := hD.1.1
  have := fa_cnt_le (fun k => s.testBit k) (D 0 0)
  rw [cf_vr_len _ _ hs (cf_gl_vr 8 s hs hp (by omega))]
  omega
theorem cp_128 (hp : p = 66 ∨ p = 83) (hD : cd_okD D) (hP : cf_P D p I J) {m T : Nat} {B : List Nat} (hm : m < 2 ^ D 0 0) (ht : cf_tw D (m + 1) I) (hpl : ce_pile D m = true) (hT : T ≤ ce_ht D m) (hall : ∀ s, s < m → ce_pile D s = true → ce_ht D s ≤ T) (hB : cf_bt D m T B) (hR : cf_rw B 37 I) (h5 : I 32 5 = nI B.length) (h6 : I 32 6 = nI T) : cw L w (cd_c 128 [.ref 32, .ref p, .int (nI m)] (cd_mm L w I J)) (fun v I1 J1 => v = none ∧ J1 = J ∧ (∀ a j, ¬ (a = 36 ∨ a = 37 ∨ a = 32) → I1 a j = I a j) ∧ ∃ B1, cf_bt D (m + 1) (ce_ht D m) B1 ∧ cf_rw B1 37 I1 ∧ I1 32 5 = nI B1.length ∧ I1 32 6 = nI (ce_ht D m)) := by
  have h8 := hD.1.1
  have hpw := ce_pwt h8
  have hmb := ce_wt_b hD m
  obtain ⟨⟨sB, sB1, sB2, sB3, sB4⟩, hB2⟩ := hB
  have hBl : B.length ≤ 8 := by rw [sB3]; exact cf_gl_len hD sB1 sB2
  have hBb : ∀ j, j < B.length → B.getD j 0 < 8 := fun j hj => by
    rw [sB3] at hj ⊢
    have := cf_gl_b 8 sB j hj
    omega
  have hGl := cf_gl_len hD hm hpl
  have hGb : ∀ j, j < (cf_gl D 8 m).length → (cf_gl D 8 m).getD j 0 < 8 := fun j hj => by
    have := cf_gl_b 8 m j hj
    omega
  have cm := fa_cnt_le (fun k => m.testBit k) (D 0 0)
  refine cw_c (l := [.ref 32, .ref p, .int (nI m), .null, .null, .null, .null]) (by rcases hp with rfl | rfl <;> rfl) (by rcases hp with rfl | rfl <;> rfl) ?_
  refine cw_m (fun _ => cd_s128_0 hp) ?_
  generalize hG : cf_gl D 8 m = G at *
  -- the row told: taken, or not
  have fin : ∀ (I2 : Nat → Nat → Int32) (x4 x5 : Int32) (v6 : Value), (∀ a j, a ≠ 36 → I2 a j = I a j) → cf_rw G 36 I2 → cw L w (cd_go 128 36 [.ref 32, .ref p, .int (nI m), .int (nI G.length), .int x4, .int x5, v6] [] (cd_mm L w I2 J)) (fun v I1 J1 => v = none ∧ J1 = J ∧ (∀ a j, ¬ (a = 36 ∨ a = 37 ∨ a = 32) → I1 a j = I a j) ∧ ∃ B1, cf_bt D (m + 1) (ce_ht D m) B1 ∧ cf_rw B1 37 I1 ∧ I1 32 5 = nI B1.length ∧ I1 32 6 = nI (ce_ht D m)) := by
    intro I2 x4 x5 v6 f2 g2
    have hin : cd_in (nI m) 256 = true := cd_inN (by omega) (by decide)
    have e34 : I2 34 m = nI (ce_ht D m) := (f2 _ _ (by decide)).trans (ht m (by omega) hm).2.1
    have e6 : I2 32 6 = nI T := (f2 _ _ (by decide)).trans h6
    have e5 : I2 32 5 = nI B.length := (f2 _ _ (by decide)).trans h5
    have eR : cf_rw B 37 I2 := fun j hj => (f2 _ _ (by decide)).trans (hR j hj)
    have take : (∀ s, s < m + 1 → s < 2 ^ D 0 0 → ce_pile D s = true → ce_ht D s = ce_ht D m → cf_ah (cf_gl D 8 s) G = false) → cw L w (some (none, cd_mm L w (cd_cpI (cd_up (cd_up I2 32 6 (I2 34 m)) 32 5 (nI G.length)) 36 (0 : Int32).toNatClampNeg 37 (0 : Int32).toNatClampNeg (8 : Int32).toNatClampNeg) J)) (fun v I1 J1 => v = none ∧ J1 = J ∧ (∀ a j, ¬ (a = 36 ∨ a = 37 ∨ a = 32) → I1 a j = I a j) ∧ ∃ B1, cf_bt D (m + 1) (ce_ht D m) B1 ∧ cf_rw B1 37 I1 ∧ I1 32 5 = nI B1.length ∧ I1 32 6 = nI (ce_ht D m)) := fun hb => by
      rw [show (0 : Int32).toNatClampNeg = 0 from rfl, show (8 : Int32).toNatClampNeg = 8 from rfl, e34]
      generalize hX : cd_up (cd_up I2 32 6 (nI (ce_ht D m))) 32 5 (nI G.length) = X
      have x5 : X 32 5 = nI G.length := by rw [← hX, cd_up_s]
      have x6 : X 32 6 = nI (ce_ht D m) := by rw [← hX, cd_up_k (by decide), cd_up_s]
      have xf : ∀ a j, a ≠ 32 → X a j = I2 a j := fun a j h => by rw [← hX, cd_up_a h, cd_up_a h]
      have cpo : ∀ a j, a ≠ 37 → cd_cpI X 36 0 37 0 8 a j = X a j := fun a j h => by unfold cd_cpI; rw [if_neg h]
      have cpi : ∀ j, j < 8 → cd_cpI X 36 0 37 0 8 37 j = X 36 j := fun j h => by unfold cd_cpI; rw [if_pos rfl, sb_cpy0 h]
      refine cw_ret ⟨rfl, rfl, fun a j hn => ?_, G, ⟨⟨m, hm, hpl, hG.symm, rfl⟩, hb⟩, fun j hj => ?_, ?_, ?_⟩
      · rw [cpo a j (by omega), xf a j (by omega), f2 a j (by omega)]
      · rw [cpi j (by omega), xf _ _ (by decide)]
        exact g2 j hj
      · rw [cpo _ _ (by decide)]; exact x5
      · rw [cpo _ _ (by decide)]; exact x6
    refine cw_m (fun _ => cd_s128_36 hp) ?_
    rw [if_pos hin, if_pos hin, nI_clamp (by omega)]
    have irr : cf_ah (cf_gl D 8 m) G = false := by rw [hG]; exact cf_ah_irr G
    refine cw_if (fun q => ?_) (fun q => ?_)
    · rw [e6, e34] at q
      have q := (nI_ltI (by omega) (by omega)).mp q
      refine take (fun s h1 h2 h3 h4 => ?_)
      by_cases hs : s = m
      · rw [hs]; exact irr
      · have := hall s (by omega) h3
        omega
    · rw [e6, e34] at q
      have hTe : T = ce_ht D m := by
        have : ¬ T < ce_ht D m := fun h => q (nI_lt h (by omega))
        omega
      rw [cp_127 g2 eR e5 (by omega) hBl hGb hBb, cw_bi]
      refine cw_m (fun _ => cd_s128_46 hp) ?_
      cases hah : cf_ah G B with
      | false =>
        rw [if_pos (show cd_tf false = 0 from rfl)]
        refine cw_ret ⟨rfl, rfl, fun a j hn => f2 a j (by omega), B, ⟨⟨sB, sB1, sB2, sB3, sB4.trans hTe⟩, fun s h1 h2 h3 h4 => ?_⟩, eR, e5, e6.trans (by rw [hTe])⟩
        by_cases hs : s = m
        · rw [hs, hG]; exact hah
        · exact hB2 s (by omega) h2 h3 (by omega)
      | true =>
        rw [if_neg (show ¬ cd_tf true = 0 by decide), if_pos hin, nI_clamp (by omega)]
        refine take (fun s h1 h2 h3 h4 => ?_)
        by_cases hs : s = m
        · rw [hs]; exact irr
        · cases hq : cf_ah (cf_gl D 8 s) G with
          | false => rfl
          | true =>
            have := cf_ah_tr _ _ _ hq hah
            rw [hB2 s (by omega) h2 h3 (by omega)] at this
            cases this
  -- the row of the set
  have gd : ∀ (l r : List Nat) j, j < l.length → (l ++ r).getD j 0 = l.getD j 0 := fun l r j hj => by
    rw [List.getD_eq_getElem?_getD, List.getElem?_append_left hj, List.getD_eq_getElem?_getD]
  refine cw_up (L := L) (w := w) (Q := fun v I1 J1 => v = none ∧ J1 = J ∧ (∀ a j, ¬ (a = 36 ∨ a = 37 ∨ a = 32) → I1 a j = I a j) ∧ ∃ B1, cf_bt D (m + 1) (ce_ht D m) B1 ∧ cf_rw B1 37 I1 ∧ I1 32 5 = nI B1.length ∧ I1 32 6 = nI (ce_ht D m)) (fun i (y : (Nat → Nat → Int32) × Nat × List Nat × Value) => cd_go 128 6 [.ref 32, .ref p, .int (nI m), .int (nI i), .int (nI y.2.1), .int (nI i), y.2.2.2] [] (cd_mm L w y.1 J)) (fun i y => (∀ a j, a ≠ 36 → y.1 a j = I a j) ∧ cf_rw y.2.2.1 36 y.1 ∧ y.2.2.1.length = i ∧ G = y.2.2.1 ++ cf_gl D (8 - i) y.2.1 ∧ y.2.1 ≤ m ∧ ce_pile D y.2.1 = true ∧ fa_cnt (fun k => y.2.1.testBit k) (D 0 0) ≤ 8 - i) 8 ?_ ?_ 0 (I, m, [], .null) (Nat.zero_le _) ⟨fun _ _ _ => rfl, fun j hj => absurd hj (Nat.not_lt_zero j), rfl, hG.symm, Nat.le_refl _, hpl, by show fa_cnt (fun k => m.testBit k) (D 0 0) ≤ 8 - 0; omega⟩
  · intro ⟨I2, s, pre, v6⟩ ⟨f2, g2, g3, g4, g5, g6, g7⟩
    replace g3 : pre.length = 8 := g3
    replace g4 : G = pre ++ [] := g4
    replace g2 : cf_rw pre 36 I2 := g2
    rw [List.append_nil] at g4
    have := fin I2 (nI s) (nI 8) v6 f2 (by rw [g4]; exact g2)
    rw [g4, g3] at this
    show cw L w (cd_go 128 6 _ _ (cd_mm L w I2 J)) _
    refine cw_m (fun _ => cd_s128_6 hp) ?_
    rw [if_neg (show ¬ nI 8 < 8 by decide)]
    exact this
  · intro i ⟨I2, s, pre, v6⟩ hi ⟨f2, g2, g3, g4, g5, g6, g7⟩ K
    replace f2 : ∀ a j, a ≠ 36 → I2 a j = I a j := f2
    replace g2 : cf_rw pre 36 I2 := g2
    replace g3 : pre.length = i := g3
    replace g4 : G = pre ++ cf_gl D (8 - i) s := g4
    replace g5 : s ≤ m := g5
    replace g6 : ce_pile D s = true := g6
    replace g7 : fa_cnt (fun k => s.testBit k) (D 0 0) ≤ 8 - i := g7
    have hs : s < 2 ^ D 0 0 := by omega
    show cw L w (cd_go 128 6 [.ref 32, .ref p, .int (nI m), .int (nI i), .int (nI s), .int (nI i), v6] [] (cd_mm L w I2 J)) _
    refine cw_m (fun _ => cd_s128_6 hp) ?_
    rw [if_pos (show nI i < 8 from nI_lt (b := 8) hi (by decide))]
    by_cases h0 : s = 0
    · subst h0
      rw [cf_gl0, List.append_nil] at g4
      rw [if_pos (show nI 0 = 0 from rfl)]
      have := fin I2 (nI 0) (nI i) v6 f2 (by rw [g4]; exact g2)
      rw [g4, g3] at this
      exact this
    · have hP2 := hP.of (I1 := I2) (J1 := J) (fun a k x1 x2 => f2 a k (by omega)) (fun _ => rfl)
      rw [if_neg (show ¬ nI s = 0 from fun q => h0 ((nI_eq (b := 0) (by omega) (by decide)).mp q)), cp_126 hp hD hP2 hs (fun u h1 h2 => by
        rw [f2 33 _ (by decide), f2 34 _ (by decide), f2 35 _ (by decide)]
        exact ht u (by omega) h2), cw_bi]
      refine cw_m (fun _ => cd_s128_15 hp) ?_
      have hlo := cf_pile_lo hs
      rw [g6, decide_eq_false h0, Bool.false_or] at hlo
      have e8 : cf_gl D (8 - i) s = match cf_lo D s with
        | none => []
        | some t => t :: cf_gl D (8 - (i + 1)) (s ^^^ 2 ^ t) := by
        rw [show 8 - i = (8 - (i + 1)) + 1 by omega]
        rfl
      cases hl : cf_lo D s with
      | none => rw [hl] at hlo; cases hlo
      | some t =>
        rw [hl] at e8
        replace e8 : cf_gl D (8 - i) s = t :: cf_gl D (8 - (i + 1)) (s ^^^ 2 ^ t) := e8
        obtain ⟨_, t2, t3, _⟩ := ce_fst_some hl
        have ht8 : t < D 0 0 := by omega
        obtain ⟨c1, _, c3⟩ := cf_cb_tb t3
        have hfl := ce_cnt_flip c1 (D 0 0) ht8
        have hxl := ce_xor_lt c1
        rw [if_neg (show ¬ cd_oi (some t) = -1 from fun e => by
          rw [show cd_oi (some t) = nI t from rfl, show (-1 : Int32) = zI (-1) from rfl, ← zI_n, zI_eq (by omega) (by omega) (by decide) (by decide)] at e
          omega), show cd_oi (some t) = nI t from rfl, if_pos (cd_inN (by omega) (by decide)), nI_clamp (by omega), show (1 : Int32) <<< (nI t &&& 31) = nI (2 ^ t) from cw_sh1 (by omega), show (-1 : Int32) = zI (-1) from rfl, cw_andn, ce_an1 c1, nI_1]
        refine K (cd_up I2 36 i (nI t), s ^^^ 2 ^ t, pre ++ [t], _) ⟨fun a j hn => (cd_up_a hn).trans (f2 a j hn), fun j hj => ?_, ?_, ?_, by show s ^^^ 2 ^ t ≤ m; omega, c3, by show fa_cnt (fun k => (s ^^^ 2 ^ t).testBit k) (D 0 0) ≤ 8 - (i + 1); omega⟩
        · replace hj : j < (pre ++ [t]).length := hj
          rw [List.length_append] at hj
          replace hj : j < pre.length + 1 := hj
          show cd_up I2 36 i (nI t) 36 j = nI ((pre ++ [t]).getD j 0)
          by_cases hji : j = i
          · subst hji
            rw [cd_up_s, List.getD_eq_getElem?_getD, List.getElem?_append_right (by omega), g3, Nat.sub_self]
            rfl
          · rw [cd_up_k hji, gd _ _ _ (by omega)]
            exact g2 j (by omega)
        · show (pre ++ [t]).length = i + 1
          rw [List.length_append, g3]
          rfl
        · show G = pre ++ [t] ++ cf_gl D (8 - (i + 1)) (s ^^^ 2 ^ t)
          rw [List.append_assoc, g4, e8]
          rfl
theorem cp_129 (hp : p = 66 ∨ p = 83) (hD : cd_okD D) (hP : cf_P D p I J) : cw L w (cd_c 129 [.ref 32, .ref p] (cd_mm L w I J)) (fun v I1 J1 => v = none ∧ J1 = J ∧ (∀ a j, ¬ (32 ≤ a ∧ a ≤ 37) → I1 a j = I a j) ∧ ∃ B, cf_best D B ∧ cf_rw B 37 I1 ∧ I1 32 5 = nI B.length ∧ I1 32 6 = nI (ce_tall D)) := by
  have h8 := hD.1.1
  have hpw := ce_pwt h8
  refine cw_c (l := [.ref 32, .ref p, .null]) (by rcases hp with rfl | rfl <;> rfl) (by rcases hp with rfl | rfl <;> rfl) ?_
  refine cw_m (fun _ => cd_s129_0 hp) ?_
  have p0 : ce_pile D 0 = true := by rw [cf_pile_lo ce_2pos, decide_eq_true rfl]; rfl
  have ht0 : ce_ht D 0 = 0 := cf_vr_ht [] 0 rfl
  refine cw_up (L := L) (w := w) (Q := fun v I1 J1 => v = none ∧ J1 = J ∧ (∀ a j, ¬ (32 ≤ a ∧ a ≤ 37) → I1 a j = I a j) ∧ ∃ B, cf_best D B ∧ cf_rw B 37 I1 ∧ I1 32 5 = nI B.length ∧ I1 32 6 = nI (ce_tall D)) (fun m (I1 : Nat → Nat → Int32) => cd_go 129 8 [.ref 32, .ref p, .int (nI m)] [] (cd_mm L w I1 J)) (fun m I1 => (∀ a j, ¬ (32 ≤ a ∧ a ≤ 37) → I1 a j = I a j) ∧ cf_tw D m I1 ∧ ∃ B, cf_bt D m (ce_tm D m) B ∧ cf_rw B 37 I1 ∧ I1 32 5 = nI B.length ∧ I1 32 6 = nI (ce_tm D m)) (2 ^ D 0 0) ?_ ?_ 0 (cd_up (cd_up I 32 5 0) 32 6 0) (Nat.zero_le _) ⟨fun a j hn => by rw [cd_up_a (by omega), cd_up_a (by omega)], fun s hs => absurd hs (Nat.not_lt_zero s), [], ⟨⟨0, ce_2pos, p0, (cf_gl0 8).symm, ht0⟩, fun s hs => absurd hs (Nat.not_lt_zero s)⟩, fun j hj => absurd hj (Nat.not_lt_zero j), by rw [cd_up_k (by decide), cd_up_s]; rfl, by rw [cd_up_s]; rfl⟩
  · intro I1 ⟨f1, t1, B, hB, g1, g2, g3⟩
    refine cw_m (fun _ => cd_s129_8 hp) ?_
    rw [f1 _ _ (by omega), hP.1.1, show (1 : Int32) <<< (nI (D 0 0) &&& 31) = nI (2 ^ D 0 0) from cw_sh1 (by omega), if_neg (fun q => Int32.lt_irrefl q)]
    obtain ⟨⟨s, s1, s2, s3, s4⟩, hB2⟩ := hB
    have hcl : ∀ x : Nat, fa_cnt (fun k => x.testBit k) (D 0 0) ≤ 8 := fun x => Nat.le_trans (fa_cnt_le _ _) h8
    refine cw_ret ⟨rfl, rfl, f1, B, ⟨⟨s, s1, by rw [s3]; exact cf_gl_vr 8 s s1 s2 (hcl s), s4⟩, fun u l u1 u2 u3 => ?_⟩, g1, g2, g3⟩
    have hu := hB2 u u1 u1 (cf_vr_pile _ _ u1 u3) u2
    rcases cf_gl_le 8 u l u1 (hcl u) u3 with h | h
    · rw [h]; exact hu
    · cases hq : cf_ah l B with
      | false => rfl
      | true =>
        have := cf_ah_tr _ _ _ h hq
        rw [hu] at this
        cases this
  · intro m I1 hm ⟨f1, t1, B, hB, g1, g2, g3⟩ K
    have hP1 := hP.of (I1 := I1) (J1 := J) (fun a k x1 x2 => f1 a k (by omega)) (fun _ => rfl)
    have hin : cd_in (nI m) 256 = true := cd_inN (by omega) (by decide)
    have hmb := ce_wt_b hD m
    have htm := ce_tm_b hD m
    refine cw_m (fun _ => cd_s129_8 hp) ?_
    rw [f1 _ _ (by omega), hP.1.1, show (1 : Int32) <<< (nI (D 0 0) &&& 31) = nI (2 ^ D 0 0) from cw_sh1 (by omega), if_pos (nI_lt hm (by omega))]
    refine cw_cv (cw_mono (cp_125 hp hD hP1 hm) ?_)
    intro v I2 J2 ⟨hv, hJ2, f2, k1, k2⟩
    have hJ2 := hJ2.symm
    subst hJ2
    refine ⟨hv, ?_⟩
    have t2 : cf_tw D m I2 := fun s h1 h2 => by
      rw [f2 33 s (by omega), f2 34 s (by omega), f2 35 s (by omega)]
      exact t1 s h1 h2
    have hP2 := hP1.of (I1 := I2) (J1 := J) (fun a k x1 x2 => f2 a k (by omega)) (fun _ => rfl)
    have etm : ce_tm D (m + 1) = if ce_pile D m && decide (ce_tm D m < ce_ht D m) then ce_ht D m else ce_tm D m := rfl
    -- judged
    have next : ∀ I3 : Nat → Nat → Int32, (∀ a j, ¬ (a = 35 ∧ j = m) → I3 a j = I2 a j) → I3 35 m = cd_tf (ce_pile D m) → cw L w (if cd_tf (ce_pile D m) = 0 then cd_go 129 49 [.ref 32, .ref p, .int (nI m)] [] (cd_mm L w I3 J) else if nI (ce_ht D m) < nI (ce_tm D m) then cd_go 129 49 [.ref 32, .ref p, .int (nI m)] [] (cd_mm L w I3 J) else (cd_cv (cd_c 128 [.ref 32, .ref p, .int (nI m)] (cd_mm L w I3 J))).bind fun m1 => cd_go 129 49 [.ref 32, .ref p, .int (nI m)] [] m1) (fun v I1 J1 => v = none ∧ J1 = J ∧ (∀ a j, ¬ (32 ≤ a ∧ a ≤ 37) → I1 a j = I a j) ∧ ∃ B, cf_best D B ∧ cf_rw B 37 I1 ∧ I1 32 5 = nI B.length ∧ I1 32 6 = nI (ce_tall D)) := by
      intro I3 f3 k3
      have t3 : cf_tw D (m + 1) I3 := fun s h1 h2 => by
        by_cases hs : s = m
        · subst hs
          exact ⟨(f3 _ _ (by omega)).trans k1, (f3 _ _ (by omega)).trans k2, k3⟩
        · rw [f3 33 s (by omega), f3 34 s (by omega), f3 35 s (by omega)]
          exact t2 s (by omega) h2
      have f13 : ∀ a j, ¬ (33 ≤ a ∧ a ≤ 35) → I3 a j = I1 a j := fun a j hn => (f3 a j (by omega)).trans (f2 a j (by omega))
      have r3 : cf_rw B 37 I3 := fun j hj => (f13 _ _ (by omega)).trans (g1 j hj)
      have keep : ¬ (ce_pile D m = true ∧ ce_tm D m ≤ ce_ht D m) → cw L w (cd_go 129 49 [.ref 32, .ref p, .int (nI m)] [] (cd_mm L w I3 J)) (fun v I1 J1 => v = none ∧ J1 = J ∧ (∀ a j, ¬ (32 ≤ a ∧ a ≤ 37) → I1 a j = I a j) ∧ ∃ B, cf_best D B ∧ cf_rw B 37 I1 ∧ I1 32 5 = nI B.length ∧ I1 32 6 = nI (ce_tall D)) := fun hn => by
        have et : ce_tm D (m + 1) = ce_tm D m := by
          rw [etm, if_neg (fun q => by
            rw [Bool.and_eq_true, decide_eq_true_eq] at q
            exact hn ⟨q.1, by omega⟩)]
        refine cw_m (fun _ => cd_s129_49 hp) ?_
        rw [nI_1]
        refine K I3 ⟨fun a j h => (f13 a j (by omega)).trans (f1 a j h), t3, B, ?_, r3, (f13 _ _ (by omega)).trans g2, by rw [et]; exact (f13 _ _ (by omega)).trans g3⟩
        rw [et]
        refine ⟨hB.1, fun s h1 h2 h3 h4 => ?_⟩
        by_cases hs : s = m
        · subst hs
          exact absurd ⟨h3, by omega⟩ hn
        · exact hB.2 s (by omega) h2 h3 h4
      cases hpl : ce_pile D m with
      | false =>
        rw [if_pos (show cd_tf false = 0 from rfl)]
        exact keep (fun q => by rw [hpl] at q; exact absurd q.1 (by decide))
      | true =>
        rw [if_neg (show ¬ cd_tf true = 0 by decide)]
        by_cases hlt : ce_ht D m < ce_tm D m
        · rw [if_pos (nI_lt hlt (by omega))]
          exact keep (fun q => by omega)
        · rw [if_neg (fun q => hlt ((nI_ltI (by omega) (by omega)).mp q))]
          have hP3 := hP2.of (I1 := I3) (J1 := J) (fun a k x1 x2 => f3 a k (by omega)) (fun _ => rfl)
          refine cw_cv (cw_mono (cp_128 hp hD hP3 hm t3 hpl (by omega) (fun s h1 h2 => ce_tall_le m s h1 h2) hB r3 ((f13 _ _ (by omega)).trans g2) ((f13 _ _ (by omega)).trans g3)) ?_)
          intro v I4 J4 ⟨hv, hJ4, f4, B1, b1, b2, b3, b4⟩
          have hJ4 := hJ4.symm
          subst hJ4
          refine ⟨hv, ?_⟩
          have et : ce_tm D (m + 1) = ce_ht D m := by
            rw [etm, hpl, Bool.true_and]
            by_cases hl2 : ce_tm D m < ce_ht D m
            · rw [if_pos (decide_eq_true hl2)]
            · rw [if_neg (fun q => hl2 (of_decide_eq_true q))]
              omega
          refine cw_m (fun _ => cd_s129_49 hp) ?_
          rw [nI_1]
          refine K I4 ⟨fun a j h => (f4 a j (by omega)).trans ((f13 a j (by omega)).trans (f1 a j h)), fun s h1 h2 => ?_, B1, by rw [et]; exact b1, b2, b3, by rw [et]; exact b4⟩
          rw [f4 33 s (by omega), f4 34 s (by omega), f4 35 s (by omega)]
          exact t3 s h1 h2
    refine cw_m (fun _ => cd_s129_18 hp) ?_
    by_cases h0 : m = 0
    · subst h0
      have nx := next (cd_up I2 35 0 1) (fun a j hn => cd_up_k2 hn) (by rw [cd_up_s, p0]; rfl)
      rw [p0] at nx
      rw [if_pos (show nI 0 = 0 from rfl), if_pos hin, if_pos hin, if_pos hin, nI_clamp (by omega), cd_up_s, cd_up_a (show (34 : Nat) ≠ 35 by decide), cd_up_a (show (32 : Nat) ≠ 35 by decide), k2, f2 32 6 (by omega), g3]
      exact nx
    · rw [if_neg (show ¬ nI m = 0 from fun q => h0 ((nI_eq (b := 0) (by omega) (by decide)).mp q)), cp_126 hp hD hP2 hm t2, cw_bi]
      refine cw_m (fun _ => cd_s129_27 hp) ?_
      have hlo := cf_pile_lo hm
      rw [decide_eq_false h0, Bool.false_or] at hlo
      have e34 : ∀ x, cd_up I2 35 m x 34 m = nI (ce_ht D m) := fun x => (cd_up_a (by decide)).trans k2
      have e32 : ∀ x, cd_up I2 35 m x 32 6 = nI (ce_tm D m) := fun x => (cd_up_a (by decide)).trans ((f2 32 6 (by omega)).trans g3)
      cases hl : cf_lo D m with
      | none =>
        rw [hl] at hlo
        have nx := next (cd_up I2 35 m 0) (fun a j hn => cd_up_k2 hn) (by rw [cd_up_s, hlo]; rfl)
        rw [hlo] at nx
        rw [if_pos (show cd_oi none = -1 from rfl), if_pos hin, if_pos hin, if_pos hin, nI_clamp (by omega), cd_up_s, e34, e32]
        exact nx
      | some t =>
        rw [hl] at hlo
        obtain ⟨_, g6, _, _⟩ := ce_fst_some hl
        have nx := next (cd_up I2 35 m 1) (fun a j hn => cd_up_k2 hn) (by rw [cd_up_s, hlo]; rfl)
        rw [hlo] at nx
        rw [if_neg (show ¬ cd_oi (some t) = -1 from fun e => by
          rw [show cd_oi (some t) = nI t from rfl, show (-1 : Int32) = zI (-1) from rfl, ← zI_n, zI_eq (by omega) (by omega) (by decide) (by decide)] at e
          omega), if_pos hin, if_pos hin, if_pos hin, nI_clamp (by omega), cd_up_s, e34, e32]
        exact nx
theorem cp_130 (hK : ce_ok D S Y) (hM : cf_M D S Y w I J) {x : Int32} : cw L w (cd_c 130 [.ref 2, .int x] (cd_mm L w I J)) (cf_post (.int (ce_toA D x)) D S Y w I) := by
  have h8 := hK.1.1.1
  refine cw_c (l := [_, _]) rfl rfl ?_
  refine cw_m (fun _ => cd_s130_0) ?_
  refine cw_cv (cw_mono (cp_129 (cf_ple w) hK.1 hM.1.1) ?_)
  intro v I1 J1 ⟨hv, hJ, f1, B, hB, g1, g5, g6⟩
  have hJ := hJ.symm
  subst hJ
  refine ⟨hv, ?_⟩
  have M1 : cf_M D S Y w I1 J := hM.of hK (fun a k hn => f1 a k (by omega))
  have fr : cf_fr I I1 := fun a k h => f1 a k (by omega)
  obtain ⟨s, s1, s2, _⟩ := hB.1
  have hlen : B.length ≤ 8 := by rw [cf_vr_len _ _ s1 s2]; exact Nat.le_trans (fa_cnt_le _ _) h8
  refine cw_m (fun _ => cd_s130_5) ?_
  rw [cf_toA hK.1 hB, g5, g6]
  refine cw_if (fun h => ?_) (fun h => ?_)
  · rw [if_pos h]
    exact cw_ret ⟨rfl, M1, fr⟩
  rw [if_neg h]
  cases hx : ce_ix x B.length with
  | false =>
    rw [if_neg (show ¬ false = true by decide)]
    refine cw_if (fun _ => cw_ret ⟨rfl, M1, fr⟩) (fun h0 => ?_)
    rcases cf_ix_f (by omega) hx with q | q
    · exact absurd q h0
    · rw [if_neg q]
      exact cw_ret ⟨rfl, M1, fr⟩
  | true =>
    obtain ⟨j, hj, rfl⟩ := ce_ix_t hx
    rw [if_pos rfl, if_neg (nI_pos (by omega)), if_pos (nI_lt hj (by omega)), if_pos (cd_inN (by omega) (by decide)), nI_clamp (by omega), g1 j hj]
    exact cw_ret ⟨rfl, M1, fr⟩
end CHB
