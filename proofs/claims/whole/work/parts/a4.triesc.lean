/-! ===== the class: fasten; trials ===== -/
section CGR
variable {L : Nat} {w : Bool} {I : Nat → Nat → Int32} {J : Nat → Nat → Int64} {D : cd_D} {S : cd_S}
variable {Y : ce_Y} {p s z : Nat}
theorem cp_124n (hK : ce_ok D S Y) (hM : cf_M D S Y w I J) {x y z : Int32} (hx : ce_ix x (D 0 2) = false) : cw L w (cd_c 124 [.ref 2, .int x, .int y, .int z] (cd_mm L w I J)) (cf_post (.int (-1001)) D S Y w I) := by
  refine cw_c (l := [_, _, _, _, _]) rfl rfl ?_
  refine cw_m (fun _ => cd_s124_0) ?_
  rw [cp_64 hM.1.1 hK.1, cw_bi, hx]
  refine cw_m (fun _ => cd_s124_3) ?_
  rw [if_pos (show cd_tf false = 0 from rfl)]
  exact cw_ret ⟨rfl, hM, cf_fr.rf⟩
theorem cf_i99_f {x : Int32} (h : ce_i99 x = false) : x < 1 ∨ 99 < x := by
  by_cases h1 : x < 1
  · exact Or.inl h1
  · refine Or.inr ?_
    unfold ce_i99 at h
    rw [decide_eq_true (Int32.not_lt.mp h1), Bool.true_and, decide_eq_false_iff_not] at h
    exact Int32.not_le.mp h
theorem cp_124o (hK : ce_ok D S Y) (hM : cf_M D S Y w I J) {x y z : Int32} (hx : ce_ix x (D 0 2) = true) (hy : ce_ix y 5 = false ∨ y = nI 2 ∧ ce_i99 z = false) : cw L w (cd_c 124 [.ref 2, .int x, .int y, .int z] (cd_mm L w I J)) (cf_post (.int (-1002)) D S Y w I) := by
  refine cw_c (l := [_, _, _, _, _]) rfl rfl ?_
  refine cw_m (fun _ => cd_s124_0) ?_
  rw [cp_64 hM.1.1 hK.1, cw_bi, hx]
  refine cw_m (fun _ => cd_s124_3) ?_
  rw [if_neg (show ¬ cd_tf true = 0 by decide)]
  rcases hy with h | ⟨rfl, h⟩
  · refine cw_if (fun _ => cw_ret ⟨rfl, hM, cf_fr.rf⟩) (fun h0 => ?_)
    refine cw_if (fun _ => cw_ret ⟨rfl, hM, cf_fr.rf⟩) (fun h4 => ?_)
    rcases cf_ix_f (by decide) h with q | q
    · exact absurd q h0
    · exact absurd ((cf_gt (n := 4) (by decide)).mpr q) h4
  · rw [if_neg (show ¬ nI 2 < 0 by decide), if_neg (show ¬ (4 : Int32) < nI 2 by decide), if_pos (show nI 2 = 2 from rfl)]
    refine cw_if (fun _ => cw_ret ⟨rfl, hM, cf_fr.rf⟩) (fun h0 => ?_)
    refine cw_if (fun _ => cw_ret ⟨rfl, hM, cf_fr.rf⟩) (fun h4 => ?_)
    rcases cf_i99_f h with q | q
    · exact absurd q h0
    · exact absurd q h4
theorem cp_124a (hK : ce_ok D S Y) (hM : cf_M D S Y w I J) {k v : Nat} {z : Int32} {Q : Option Value → (Nat → Nat → Int32) → (Nat → Nat → Int64) → Prop} (hk : k < D 0 2) (hv : v < 5) (hz : v = 2 → ce_i99 z = true) (h : cw L w (cd_go 124 28 [.ref 2, .int (nI k), .int (nI v), .int z, .null] [.int (cd_tf (cd_und D (D 11 k) (S 1 (D 12 k))))] (cd_mm L w I J)) Q) : cw L w (cd_c 124 [.ref 2, .int (nI k), .int (nI v), .int z] (cd_mm L w I J)) Q := by
  have h12 := hK.1.1.2.2.1
  refine cw_c (l := [_, _, _, _, _]) rfl rfl ?_
  refine cw_m (fun _ => cd_s124_0) ?_
  rw [cp_64 hM.1.1 hK.1, cw_bi, ce_ix_n hk (by omega)]
  refine cw_m (fun _ => cd_s124_3) ?_
  rw [if_neg (show ¬ cd_tf true = 0 by decide), if_neg (nI_pos (by omega)), if_neg (show ¬ (4 : Int32) < nI v from fun q => (cf_gt (n := 4) (by decide)).mp q (nI_lt hv (by decide)))]
  have next : cw L w (cd_go 124 22 [.ref 2, .int (nI k), .int (nI v), .int z, .null] [] (cd_mm L w I J)) Q := by
    refine cw_m (fun _ => cd_s124_22) ?_
    rw [cp_30 (S := S) (s := 45) (cf_ple w) (by decide) hM.1.1 hK.1 hM.1.2.1.2.1 hK.2.1.1.1 hk, cw_bi]
    exact h
  by_cases h2 : v = 2
  · subst h2
    obtain ⟨t, t1, t2, rfl⟩ := ce_i99_t (hz rfl)
    rw [if_pos (show nI 2 = 2 from rfl), if_neg (fun q => by
      have := (nI_ltI (b := 1) (by omega) (by decide)).mp q
      omega), if_neg (fun q => by
      have := (nI_ltI (a := 99) (by decide) (by omega)).mp q
      omega)]
    exact next
  · rw [if_neg (show ¬ nI v = 2 from fun q => h2 ((nI_eq (b := 2) (by omega) (by decide)).mp q))]
    exact next
theorem cp_124m (hK : ce_ok D S Y) (hM : cf_M D S Y w I J) {k v : Nat} {z : Int32} (hk : k < D 0 2) (hv : v < 5) (hz : v = 2 → ce_i99 z = true) (hu : cd_und D (D 11 k) (S 1 (D 12 k)) = false) : cw L w (cd_c 124 [.ref 2, .int (nI k), .int (nI v), .int z] (cd_mm L w I J)) (cf_post (.int (-1003)) D S Y w I) := by
  refine cp_124a hK hM hk hv hz ?_
  rw [hu]
  refine cw_m (fun _ => cd_s124_28) ?_
  rw [if_pos (show cd_tf false = 0 from rfl)]
  exact cw_ret ⟨rfl, hM, cf_fr.rf⟩
theorem cf_fasM (hM : cf_M D S Y w I J) (hK : ce_ok D S Y) {k v b : Nat} (hk : k < D 0 2) : cf_M D (ce_fas S k v b) Y w (cd_up (cd_up (cd_up I 47 k (nI v)) 48 k (nI b)) 45 2 (nI (S 0 2 ||| 2 ^ k))) J := by
  have hU := hK.2.2.1.2.2.2.1
  obtain ⟨hZ, hC⟩ := hM
  have hQ := hZ.2.1
  have r : ∀ a j, ¬ (45 ≤ a ∧ a ≤ 48) → cd_up (cd_up (cd_up I 47 k (nI v)) 48 k (nI b)) 45 2 (nI (S 0 2 ||| 2 ^ k)) a j = I a j := fun a j h => by rw [cd_up_a (by omega), cd_up_a (by omega), cd_up_a (by omega)]
  refine ⟨hZ.st hU (fun a j _ h => r a j h) ⟨⟨?_, ?_⟩, fun t ht => ?_, fun j hj => ?_⟩ rfl, hC.of (fun a j h1 h2 => r a j (by omega)) (fun _ => rfl)⟩
  · rw [cd_up_k (by decide), cd_up_a (by decide), cd_up_a (by decide)]
    exact hQ.1.1
  · rw [cd_up_s]
    rfl
  · rw [cd_up_a (by decide), cd_up_a (by decide), cd_up_a (by decide)]
    exact hQ.2.1 t ht
  · have e2 : ce_fas S k v b 2 j = if j = k then v else S 2 j := by
      show (bif Nat.beq j k then v else S 2 j) = _
      by_cases h : j = k
      · rw [if_pos h, h, Nat.beq_refl]; rfl
      · rw [if_neg h, cw_beqf h]; rfl
    have e3 : ce_fas S k v b 3 j = if j = k then b else S 3 j := by
      show (bif Nat.beq j k then b else S 3 j) = _
      by_cases h : j = k
      · rw [if_pos h, h, Nat.beq_refl]; rfl
      · rw [if_neg h, cw_beqf h]; rfl
    rw [e2, e3]
    by_cases h : j = k
    · subst h
      rw [if_pos rfl, if_pos rfl]
      refine ⟨?_, ?_⟩
      · rw [cd_up_a (by decide), cd_up_a (by decide), cd_up_s]
      · rw [cd_up_a (by decide), cd_up_s]
    · rw [if_neg h, if_neg h]
      refine ⟨?_, ?_⟩
      · rw [cd_up_a (by decide), cd_up_a (by decide), cd_up_k h]
        exact (hQ.2.2 j hj).1
      · rw [cd_up_a (by decide), cd_up_k h, cd_up_a (by decide)]
        exact (hQ.2.2 j hj).2
theorem cp_124 (hK : ce_ok D S Y) (hM : cf_M D S Y w I J) {k v b : Nat} {z : Int32} (hk : k < D 0 2) (hv : v < 5) (hz : v = 2 → z = nI b ∧ 1 ≤ b ∧ b ≤ 99) (hb : v ≠ 2 → b = 0) (hu : cd_und D (D 11 k) (S 1 (D 12 k)) = true) : cw L w (cd_c 124 [.ref 2, .int (nI k), .int (nI v), .int z] (cd_mm L w I J)) (cf_post (.int (nI (S 2 k))) D (ce_fas S k v b) Y w I) := by
  have h12 := hK.1.1.2.2.1
  refine cp_124a hK hM hk hv (fun h => by
    obtain ⟨rfl, h1, h2⟩ := hz h
    exact ce_i99_n h1 h2) ?_
  rw [hu]
  refine cw_m (fun _ => cd_s124_28) ?_
  have hin : cd_in (nI k) 12 = true := cd_inN (by omega) (by decide)
  have e : ∀ x, cd_up (cd_up I 47 k (nI v)) 48 k x 45 2 = nI (S 0 2) := fun x => by
    rw [cd_up_a (by decide), cd_up_a (by decide)]
    exact hM.1.2.1.1.2
  rw [if_neg (show ¬ cd_tf true = 0 by decide), if_pos hin, if_pos hin, nI_clamp (by omega), e, e, show (1 : Int32) <<< (nI k &&& 31) = nI (2 ^ k) from cw_sh1 (by omega), cw_or, (hM.1.2.1.2.2 k hk).1]
  have fin := cf_fasM hM hK (v := v) (b := b) hk
  have ff : cf_fr I (cd_up (cd_up (cd_up I 47 k (nI v)) 48 k (nI b)) 45 2 (nI (S 0 2 ||| 2 ^ k))) := fun a j h => by rw [cd_up_a (by omega), cd_up_a (by omega), cd_up_a (by omega)]
  by_cases h2 : v = 2
  · obtain ⟨rfl, h1, h3⟩ := hz h2
    rw [if_pos (show nI v = 2 by rw [h2]; rfl), if_pos hin]
    exact cw_ret ⟨rfl, fin, ff⟩
  · rw [if_neg (show ¬ nI v = 2 from fun q => h2 ((nI_eq (b := 2) (by omega) (by decide)).mp q)), if_pos hin, show (0 : Int32) = nI b by rw [hb h2]; rfl]
    exact cw_ret ⟨rfl, fin, ff⟩
/-- a plan and a state in cells that a trial leaves alone -/
theorem cf_P.tr {I1 : Nat → Nat → Int32} (hp : p = 66 ∨ p = 83) (h : cf_P D p I J) (f : ∀ a j, ¬ (22 ≤ a ∧ a ≤ 25) → I1 a j = I a j) : cf_P D p I1 J := h.of (fun a k h1 h2 => f a k (by omega)) (fun _ => rfl)
/-- the holds that reach their things -/
def cf_rc (D : cd_D) (S : cd_S) (n : Nat) : Nat := ce_msk (fun j => cd_und D (D 11 j) (S 1 (D 12 j))) n
theorem cp_107 (hp : p = 66 ∨ p = 83) (hD : cd_okD D) (hS : cd_okS D S) (hP : cf_P D p I J) (hQ : cf_S D S 45 I) : cw L w (cd_c 107 [.ref 21, .ref p, .ref 45] (cd_mm L w I J)) (fun v I1 J1 => v = none ∧ J1 = J ∧ (∀ a j, ¬ (22 ≤ a ∧ a ≤ 25) → I1 a j = I a j) ∧ cf_S D (ce_sH S (cf_rc D S (D 0 2))) 22 I1) := by
  have h8 := hD.1.1
  have h12 := hD.1.2.2.1
  refine cw_c (l := [.ref 21, .ref p, .ref 45, .null]) (by rcases hp with rfl | rfl <;> rfl) (by rcases hp with rfl | rfl <;> rfl) ?_
  refine cw_m (fun _ => cd_s107_0 hp) ?_
  refine cw_cv (cw_mono (cp_39 (s := 22) (u := 45) (by decide) (by decide) (by decide)) ?_)
  intro v I1 J1 ⟨hv, hJ, f1, hc⟩
  have hJ := hJ.symm
  subst hJ
  refine ⟨hv, ?_⟩
  have Q1 := hc D S h8 h12 hQ
  refine cw_m (fun _ => cd_s107_4 hp) ?_
  have go := cw_up (L := L) (w := w) (Q := fun v I2 J2 => v = none ∧ J2 = J ∧ (∀ a j, ¬ (22 ≤ a ∧ a ≤ 25) → I2 a j = I a j) ∧ cf_S D (ce_sH S (cf_rc D S (D 0 2))) 22 I2) (fun i (I2 : Nat → Nat → Int32) => cd_go 107 10 [.ref 21, .ref p, .ref 45, .int (nI i)] [] (cd_mm L w I2 J)) (fun i I2 => (∀ a j, ¬ (a = 22 ∧ j = 2) → I2 a j = I1 a j) ∧ I2 22 2 = nI (cf_rc D S i)) (D 0 2) ?_ ?_ 0 (cd_up I1 22 2 0) (Nat.zero_le _) ⟨fun a j h => cd_up_k2 h, cd_up_s⟩
  · exact go
  · intro I2 ⟨f2, g2⟩
    refine cw_m (fun _ => cd_s107_10 hp) ?_
    rw [f2 _ _ (by omega), f1 _ _ (by omega), hP.1.2.2.1, if_neg (fun h => Int32.lt_irrefl h)]
    refine cw_ret ⟨rfl, rfl, fun a j h => (f2 a j (by omega)).trans (f1 a j (by omega)), ⟨⟨(f2 _ _ (by omega)).trans Q1.1.1, g2⟩, fun t ht => (f2 _ _ (by omega)).trans (Q1.2.1 t ht), fun k hk => ⟨(f2 _ _ (by omega)).trans (Q1.2.2 k hk).1, (f2 _ _ (by omega)).trans (Q1.2.2 k hk).2⟩⟩⟩
  · intro i I2 hi ⟨f2, g2⟩ K
    have hP2 := hP.tr (I1 := I2) hp (fun a j h => (f2 a j (by omega)).trans (f1 a j (by omega)))
    have hQ2 := hQ.of (I1 := I2) (fun a j h1 h2 => (f2 a j (by omega)).trans (f1 a j (by omega)))
    refine cw_m (fun _ => cd_s107_10 hp) ?_
    rw [hP2.1.2.2.1, if_pos (nI_lt hi (by omega)), cp_30 (S := S) (s := 45) hp (by decide) hP2 hD hQ2.2.1 hS.1 hi, cw_bi]
    refine cw_m (fun _ => cd_s107_18 hp) ?_
    rw [nI_1, g2, show (1 : Int32) <<< (nI i &&& 31) = nI (2 ^ i) from cw_sh1 (by omega), cw_or]
    have e : cf_rc D S (i + 1) = cf_rc D S i + (if cd_und D (D 11 i) (S 1 (D 12 i)) then 2 ^ i else 0) := rfl
    cases hu : cd_und D (D 11 i) (S 1 (D 12 i)) with
    | false =>
      rw [if_pos (show cd_tf false = 0 from rfl)]
      refine K I2 ⟨f2, ?_⟩
      rw [e, hu]
      exact g2
    | true =>
      rw [if_neg (show ¬ cd_tf true = 0 by decide)]
      refine K _ ⟨fun a j h => (cd_up_k2 h).trans (f2 a j h), ?_⟩
      rw [cd_up_s, e, hu]
      show nI (ce_msk _ i ||| 2 ^ i) = _
      rw [ce_msk_or]
      rfl
theorem cp_108 (hp : p = 66 ∨ p = 83) (hD : cd_okD D) (hS : cd_okS D S) (hP : cf_P D p I J) (hQ : cf_S D S 45 I) {row : Nat} (hr : row < 2 ^ 20) : cw L w (cd_c 108 [.ref 21, .ref p, .ref 45, .int (nI row)] (cd_mm L w I J)) (fun v I1 J1 => v = none ∧ J1 = J ∧ (∀ a j, ¬ (22 ≤ a ∧ a ≤ 25) → I1 a j = I a j) ∧ cf_S D (ce_hb D S row 3) 22 I1) := by
  have h8 := hD.1.1
  have h12 := hD.1.2.2.1
  refine cw_c (l := [.ref 21, .ref p, .ref 45, .int (nI row), .null, .null, .null]) (by rcases hp with rfl | rfl <;> rfl) (by rcases hp with rfl | rfl <;> rfl) ?_
  refine cw_m (fun _ => cd_s108_0 hp) ?_
  refine cw_cv (cw_mono (cp_107 hp hD hS hP hQ) ?_)
  intro v I1 J1 ⟨hv, hJ, f1, Q1⟩
  have hJ := hJ.symm
  subst hJ
  refine ⟨hv, ?_⟩
  refine cw_m (fun _ => cd_s108_4 hp) ?_
  rw [f1 _ _ (by omega), hP.1.2.2.1]
  have go := cw_dn (L := L) (w := w) (Q := fun v I2 J2 => v = none ∧ J2 = J ∧ (∀ a j, ¬ (22 ≤ a ∧ a ≤ 25) → I2 a j = I a j) ∧ cf_S D (ce_hb D S row 3) 22 I2) (fun i (y : (Nat → Nat → Int32) × Value) => cd_go 108 11 [.ref 21, .ref p, .ref 45, .int (nI row), .int (nI (row / 3 ^ (D 0 2 - i))), .int (zI ((i : Int) - 1)), y.2] [] (cd_mm L w y.1 J)) (fun i y => i ≤ D 0 2 ∧ (∀ a j, ¬ ((a = 24 ∨ a = 25) ∧ i ≤ j) → y.1 a j = I1 a j) ∧ ∀ k, i ≤ k → k < D 0 2 → y.1 24 k = nI (ce_hb D S row 3 2 k) ∧ y.1 25 k = nI (ce_hb D S row 3 3 k)) ?_ ?_ (D 0 2) (I1, .null) ⟨Nat.le_refl _, fun _ _ _ => rfl, fun k h1 h2 => by omega⟩
  · rw [Nat.sub_self, Nat.pow_zero, Nat.div_one] at go
    rw [← zI_n (D 0 2), show (1 : Int32) = zI 1 from rfl, zI_sub]
    exact go
  · intro ⟨I2, v6⟩ ⟨_, f2, g2⟩
    replace f2 : ∀ a j, ¬ ((a = 24 ∨ a = 25) ∧ 0 ≤ j) → I2 a j = I1 a j := f2
    show cw L w (cd_go 108 11 _ _ (cd_mm L w I2 J)) _
    refine cw_m (fun _ => cd_s108_11 hp) ?_
    rw [if_pos (show zI (((0 : Nat) : Int) - 1) < 0 by decide)]
    refine cw_ret ⟨rfl, rfl, fun a j h => (f2 a j (by omega)).trans (f1 a j h), ⟨⟨(f2 _ _ (by omega)).trans Q1.1.1, (f2 _ _ (by omega)).trans Q1.1.2⟩, fun t ht => (f2 _ _ (by omega)).trans (Q1.2.1 t ht), fun k hk => g2 k (Nat.zero_le _) hk⟩⟩
  · intro i ⟨I2, v6⟩ ⟨hi, f2, g2⟩ K
    replace hi : i + 1 ≤ D 0 2 := hi
    replace f2 : ∀ a j, ¬ ((a = 24 ∨ a = 25) ∧ i + 1 ≤ j) → I2 a j = I1 a j := f2
    replace g2 : ∀ k, i + 1 ≤ k → k < D 0 2 → I2 24 k = nI (ce_hb D S row 3 2 k) ∧ I2 25 k = nI (ce_hb D S row 3 3 k) := g2
    show cw L w (cd_go 108 11 [.ref 21, .ref p, .ref 45, .int (nI row), .int (nI (row / 3 ^ (D 0 2 - (i + 1)))), .int (zI (((i + 1 : Nat) : Int) - 1)), v6] [] (cd_mm L w I2 J)) _
    rw [show ((i + 1 : Nat) : Int) - 1 = (i : Int) by omega, zI_n]
    have e2 : ce_hb D S row 3 2 i = row / 3 ^ (D 0 2 - (i + 1)) % 3 := by rw [ce_hb2, show D 0 2 - 1 - i = D 0 2 - (i + 1) by omega]
    have e3 : ce_hb D S row 3 3 i = if row / 3 ^ (D 0 2 - (i + 1)) % 3 = 2 then 20 else 0 := by rw [ce_hb3, show D 0 2 - 1 - i = D 0 2 - (i + 1) by omega]
    have hdd : row / 3 ^ (D 0 2 - i) = row / 3 ^ (D 0 2 - (i + 1)) / 3 := by
      rw [show D 0 2 - i = D 0 2 - (i + 1) + 1 by omega, Nat.pow_succ, Nat.div_div_eq_div_mul]
    have hlt : row / 3 ^ (D 0 2 - (i + 1)) < 2 ^ 20 := Nat.lt_of_le_of_lt (Nat.div_le_self _ _) hr
    generalize hm : row / 3 ^ (D 0 2 - (i + 1)) = m at *
    refine cw_m (fun _ => cd_s108_11 hp) ?_
    have hrem : nI m - nI m / 3 * 3 = nI (m % 3) := by rw [show (3 : Int32) = nI 3 from rfl]; exact pk_rem (by omega) (by decide) (by decide)
    rw [if_neg (nI_pos (by omega)), hrem]
    have hm3 : m % 3 < 3 := Nat.mod_lt _ (by decide)
    have rest : ∀ b, b = (if m % 3 = 2 then 20 else 0) → cw L w ((cd_cv (cd_c 32 [.ref 22, .int (nI i), .int (nI (m % 3)), .int (nI b)] (cd_mm L w I2 J))).bind fun m1 => cd_go 108 28 [.ref 21, .ref p, .ref 45, .int (nI row), .int (nI m), .int (nI i), .int (nI (m % 3))] [] m1) (fun v I2 J2 => v = none ∧ J2 = J ∧ (∀ a j, ¬ (22 ≤ a ∧ a ≤ 25) → I2 a j = I a j) ∧ cf_S D (ce_hb D S row 3) 22 I2) := fun b hb => by
      rw [cp_32 (Or.inl rfl) (by omega), cw_bv]
      refine cw_m (fun _ => cd_s108_28 hp) ?_
      rw [show nI i + (-1) = zI ((i : Int) - 1) by
        rw [← zI_n, show (-1 : Int32) = zI (-1) from rfl, zI_add]
        rfl, show nI m / 3 = nI (m / 3) from by rw [show (3 : Int32) = nI 3 from rfl]; exact pk_div (by omega) (by decide) (by decide)]
      have := K (cd_up (cd_up I2 (22 + 2) i (nI (m % 3))) (22 + 3) i (nI b), .int (nI (m % 3))) ⟨by omega, fun a j h => by
        show cd_up (cd_up I2 24 i (nI (m % 3))) 25 i (nI b) a j = _
        rw [cd_up_k2 (by omega), cd_up_k2 (by omega), f2 a j (by omega)], fun k h1 h2 => by
        show cd_up (cd_up I2 24 i (nI (m % 3))) 25 i (nI b) 24 k = _ ∧ cd_up (cd_up I2 24 i (nI (m % 3))) 25 i (nI b) 25 k = _
        by_cases hki : k = i
        · subst hki
          rw [cd_up_a (by decide), cd_up_s, cd_up_s, e2, e3, hb]
          exact ⟨rfl, rfl⟩
        · rw [cd_up_k hki, cd_up_k hki, cd_up_k hki, cd_up_k hki]
          exact g2 k (by omega) h2⟩
      rw [hdd] at this
      exact this
    by_cases h2 : m % 3 = 2
    · rw [if_pos (show nI (m % 3) = 2 by rw [h2]; rfl)]
      exact rest 20 (by rw [if_pos h2])
    · rw [if_neg (show ¬ nI (m % 3) = 2 from fun q => h2 ((nI_eq (b := 2) (by omega) (by decide)).mp q))]
      exact rest 0 (by rw [if_neg h2])
end CGR
