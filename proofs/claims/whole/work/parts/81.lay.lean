/-! ===== the class: how the cloths hang ===== -/
section CFR
variable {L : Nat} {w : Bool} {I : Nat → Nat → Int32} {J : Nat → Nat → Int64} {D : cd_D} {S : cd_S}
variable {p s z : Nat}
theorem cp_2 {a n : Nat} {x : Int32} (hn : n < 2 ^ 31) (ha : ∀ I J, cd_k (cd_mm L w I J) a = 20 ∧ cd_n (cd_mm L w I J) a = n) (h0 : cd_ent 2 [.ref a, .int x] = [.ref a, .int x, .null, .null]) (h1 : (Nat.ble (cd_args [.ref a, .int x]).length (cd_mx 2) && [Value.ref a, Value.int x].all cd_nz) = true) : cw L w (cd_c 2 [.ref a, .int x] (cd_mm L w I J)) (fun v I1 J1 => v = none ∧ J1 = J ∧ ∀ b j, I1 b j = if b = a ∧ j < n then x else I b j) := by
  refine cw_c h0 h1 ?_
  refine cw_m (fun _ => cd_q2_0) ?_
  rw [(ha I J).1, (ha I J).2, if_pos rfl]
  refine cw_up (fun i (I1 : Nat → Nat → Int32) => cd_go 2 5 [.ref a, .int x, .int (nI i), .int (nI n)] [] (cd_mm L w I1 J)) (fun i I1 => ∀ b j, I1 b j = if b = a ∧ j < i then x else I b j) n ?_ ?_ 0 I (Nat.zero_le _) (fun b j => by rw [if_neg (by omega)])
  · intro I1 hI
    refine cw_m (fun _ => cd_q2_5) ?_
    rw [if_neg (fun h => Int32.lt_irrefl h)]
    exact cw_ret ⟨rfl, rfl, hI⟩
  · intro i I1 hi hI K
    refine cw_m (fun _ => cd_q2_5) ?_
    rw [if_pos (nI_lt hi hn), if_pos ⟨(ha I1 J).1, by rw [(ha I1 J).2]; exact cd_inN hi hn⟩, nI_clamp (by omega), nI_1]
    refine K (cd_up I1 a i x) (fun b j => ?_)
    rw [cw_uu, hI]
    by_cases hb : b = a
    · rw [if_pos hb]
      by_cases hj : j = i
      · rw [if_pos hj, if_pos ⟨hb, by omega⟩]
      · rw [if_neg hj]
        by_cases hji : j < i
        · rw [if_pos ⟨hb, hji⟩, if_pos ⟨hb, by omega⟩]
        · rw [if_neg (fun q => hji q.2), if_neg (by omega)]
    · rw [if_neg hb, if_neg (fun q => hb q.1), if_neg (fun q => hb q.1)]
/-- what the table of a cloth's cells says: the hold leant on, and how high -/
def cf_T (z : Nat) (A : Nat → Nat → Option (Nat × Int)) (I : Nat → Nat → Int32) : Prop := ∀ k c, k < 3 → c < 64 → I (z + 1) (64 * k + c) = zI (match A k c with
    | none => -1
    | some y => y.2) ∧ I (z + 2) (64 * k + c) = match A k c with
    | none => -1
    | some y => nI y.1
/-- in bounds -/
def cf_B (A : Nat → Nat → Option (Nat × Int)) : Prop := ∀ k c y, k < 3 → c < 64 → A k c = some y → y.1 < 12 ∧ -200 ≤ y.2 ∧ y.2 ≤ 200
/-- hold h stretched over those cells of its cloth that B takes -/
def cf_st (D : cd_D) (S : cd_S) (h : Nat) (B : Nat → Bool) (A : Nat → Nat → Option (Nat × Int)) : Nat → Nat → Option (Nat × Int) := fun k c => if (Nat.beq (D 11 h) k && cd_und D k c) && B c then (match A k c with
  | none => some (h, cd_hby D S h c)
  | some y => if y.2 < cd_hby D S h c then some (h, cd_hby D S h c) else some y) else A k c
theorem cf_T.cong {z : Nat} {A A1 : Nat → Nat → Option (Nat × Int)} {I : Nat → Nat → Int32} (h : cf_T z A I) (e : ∀ k c, k < 3 → c < 64 → A1 k c = A k c) : cf_T z A1 I := fun k c hk hc => by
  rw [e k c hk hc]
  exact h k c hk hc
theorem ce_abs_dst (a b : Nat) : ce_abs ((a : Int) - (b : Int)) = (cd_dst b a : Int) := by
  unfold ce_abs cd_dst
  split <;> split <;> omega
theorem cf_st_cong {D : cd_D} {S : cd_S} {h : Nat} {B B1 : Nat → Bool} {A : Nat → Nat → Option (Nat × Int)} {k c : Nat} (e : Nat.beq (D 11 h) k = true → cd_und D k c = true → B c = B1 c) : cf_st D S h B A k c = cf_st D S h B1 A k c := by
  unfold cf_st
  cases h1 : Nat.beq (D 11 h) k with
  | false => rfl
  | true =>
    cases h2 : cd_und D k c with
    | false => rfl
    | true => rw [e h1 h2]
theorem cf_und {D : cd_D} {k c : Nat} : cd_und D k c = true ↔ (D 5 k / 8 ≤ c / 8 ∧ c / 8 < D 5 k / 8 + D 6 k) ∧ D 5 k % 8 ≤ c % 8 ∧ c % 8 < D 5 k % 8 + D 7 k := by
  unfold cd_und
  rw [Bool.and_eq_true, Bool.and_eq_true, Bool.and_eq_true, decide_eq_true_eq, decide_eq_true_eq, decide_eq_true_eq, decide_eq_true_eq]
/-- one cell stretched -/
theorem cf_T_st {z h r q : Nat} {D : cd_D} {S : cd_S} {A : Nat → Nat → Option (Nat × Int)} {I I1 : Nat → Nat → Int32} (hr : r < 8) (hq : q < 8) (hj : D 11 h < 3) (hu : cd_und D (D 11 h) (8 * r + q) = true) (hT : cf_T z (cf_st D S h (fun c => decide (c / 8 < r) || (decide (c / 8 = r) && decide (c % 8 < q))) A) I) (f : ∀ a j, ¬ ((a = z + 1 ∨ a = z + 2) ∧ j = 64 * D 11 h + (8 * r + q)) → I1 a j = I a j) (w1 : I1 (z + 1) (64 * D 11 h + (8 * r + q)) = zI (match cf_st D S h (fun _ => true) A (D 11 h) (8 * r + q) with
    | none => -1
    | some y => y.2)) (w2 : I1 (z + 2) (64 * D 11 h + (8 * r + q)) = match cf_st D S h (fun _ => true) A (D 11 h) (8 * r + q) with
    | none => -1
    | some y => nI y.1) : cf_T z (cf_st D S h (fun c => decide (c / 8 < r) || (decide (c / 8 = r) && decide (c % 8 < q + 1))) A) I1 := by
  intro k c hk hc
  by_cases he : k = D 11 h ∧ c = 8 * r + q
  · obtain ⟨rfl, rfl⟩ := he
    have e : cf_st D S h (fun c => decide (c / 8 < r) || (decide (c / 8 = r) && decide (c % 8 < q + 1))) A (D 11 h) (8 * r + q) = cf_st D S h (fun _ => true) A (D 11 h) (8 * r + q) := cf_st_cong (fun _ _ => by
      show (decide ((8 * r + q) / 8 < r) || (decide ((8 * r + q) / 8 = r) && decide ((8 * r + q) % 8 < q + 1))) = true
      rw [decide_eq_true (show (8 * r + q) / 8 = r by omega), decide_eq_true (show (8 * r + q) % 8 < q + 1 by omega)]
      cases decide ((8 * r + q) / 8 < r) <;> rfl)
    rw [e]
    exact ⟨w1, w2⟩
  · have e : cf_st D S h (fun c => decide (c / 8 < r) || (decide (c / 8 = r) && decide (c % 8 < q + 1))) A k c = cf_st D S h (fun c => decide (c / 8 < r) || (decide (c / 8 = r) && decide (c % 8 < q))) A k c := cf_st_cong (fun h1 h2 => by
      have := Nat.eq_of_beq_eq_true h1
      show (decide (c / 8 < r) || (decide (c / 8 = r) && decide (c % 8 < q + 1))) = (decide (c / 8 < r) || (decide (c / 8 = r) && decide (c % 8 < q)))
      by_cases h3 : c / 8 = r
      · have : (c % 8 < q + 1) ↔ (c % 8 < q) := by omega
        rw [decide_eq_decide.mpr this]
      · rw [decide_eq_false h3]; rfl)
    rw [e, f _ _ (by omega), f _ _ (by omega)]
    exact hT k c hk hc
/-- along one row -/
theorem cp_51i (hp : p = 66 ∨ p = 83) (hz : z = 14 ∨ z = 38) (hD : cd_okD D) (hP : cf_P D p I J) (hS : ∀ t, t < D 0 0 → S 1 t < 64) {A : Nat → Nat → Option (Nat × Int)} (hA : cf_B A) {h r : Nat} (hh : h < D 0 2) (hr0 : D 5 (D 11 h) / 8 ≤ r) (hr1 : r < D 5 (D 11 h) / 8 + D 6 (D 11 h)) {Q : Option Value → (Nat → Nat → Int32) → (Nat → Nat → Int64) → Prop} {lineI : Int32} (hl : lineI = zI ((cd_top D S (D 12 h) : Int) - (D 9 (D 11 h) : Int) * (cd_dst (S 1 (D 12 h) / 8) r : Int))) (htop : cd_top D S (D 12 h) ≤ 20) (K : ∀ I1 w9 w10 w11 w12, (∀ a j, a ≠ z + 1 → a ≠ z + 2 → I1 a j = I a j) → cf_T z (cf_st D S h (fun c => decide (c / 8 < r + 1)) A) I1 → cw L w (cd_go 51 26 [.ref z, .ref p, .int (nI h), .int (nI (S 1 (D 12 h))), .int (nI (D 11 h)), .int (nI (D 9 (D 11 h))), .int (nI (D 5 (D 11 h) / 8)), .int (nI (D 5 (D 11 h) % 8)), .int (nI (r + 1)), w9, w10, w11, w12] [] (cd_mm L w I1 J)) Q) (hT : cf_T z (cf_st D S h (fun c => decide (c / 8 < r)) A) I) (w11 w12 : Value) : cw L w (cd_go 51 50 [.ref z, .ref p, .int (nI h), .int (nI (S 1 (D 12 h))), .int (nI (D 11 h)), .int (nI (D 9 (D 11 h))), .int (nI (D 5 (D 11 h) / 8)), .int (nI (D 5 (D 11 h) % 8)), .int (nI r), .int lineI, .int (nI (D 5 (D 11 h) % 8)), w11, w12] [] (cd_mm L w I J)) Q := by
  have h3 := hD.1.2.1
  have h12 := hD.1.2.2.1
  obtain ⟨d11, d12⟩ := hD.2.2.2 h hh
  obtain ⟨c5, c6, c56, c7, c57, c8, c8', c9, c9'⟩ := hD.2.2.1 _ d11
  have hpk := hS _ d12
  have r7 := (hP.2.2.1 _ d11).2.2.1
  generalize hj : D 11 h = j at *
  have hP7 : ∀ I1 : Nat → Nat → Int32, (∀ a j, a ≠ z + 1 → a ≠ z + 2 → I1 a j = I a j) → I1 (p + 7) j = nI (D 7 j) := fun I1 f => (f _ _ (by omega) (by omega)).trans r7
  have go := cw_up (L := L) (w := w) (Q := Q) (fun q (y : (Nat → Nat → Int32) × Value × Value) => cd_go 51 50 [.ref z, .ref p, .int (nI h), .int (nI (S 1 (D 12 h))), .int (nI j), .int (nI (D 9 j)), .int (nI (D 5 j / 8)), .int (nI (D 5 j % 8)), .int (nI r), .int lineI, .int (nI q), y.2.1, y.2.2] [] (cd_mm L w y.1 J)) (fun q y => D 5 j % 8 ≤ q ∧ (∀ a j, a ≠ z + 1 → a ≠ z + 2 → y.1 a j = I a j) ∧ cf_T z (cf_st D S h (fun c => decide (c / 8 < r) || (decide (c / 8 = r) && decide (c % 8 < q))) A) y.1) (D 5 j % 8 + D 7 j) ?_ ?_ (D 5 j % 8) (I, w11, w12) (by omega) ⟨Nat.le_refl _, fun _ _ _ _ => rfl, hT.cong (fun k c hk hc => cf_st_cong (fun h1 h2 => ?_))⟩
  · exact go
  · intro ⟨I1, v11, v12⟩ ⟨_, f1, T1⟩
    replace f1 : ∀ a j, a ≠ z + 1 → a ≠ z + 2 → I1 a j = I a j := f1
    replace T1 : cf_T z (cf_st D S h (fun c => decide (c / 8 < r) || (decide (c / 8 = r) && decide (c % 8 < D 5 j % 8 + D 7 j))) A) I1 := T1
    show cw L w (cd_go 51 50 _ _ (cd_mm L w I1 J)) _
    refine cw_m (fun _ => cd_s51_50 hp hz) ?_
    rw [if_pos (cd_inN (by omega) (by decide)), nI_clamp (by omega), hP7 I1 f1, nI_add, if_neg (fun h => Int32.lt_irrefl h), nI_1]
    refine K I1 _ _ _ _ f1 (T1.cong (fun k c hk hc => cf_st_cong (fun h1 h2 => ?_)))
    have h1 := Nat.eq_of_beq_eq_true h1
    rw [hj] at h1
    subst h1
    have h2 := cf_und.mp h2
    show decide (c / 8 < r + 1) = (decide (c / 8 < r) || (decide (c / 8 = r) && decide (c % 8 < D 5 j % 8 + D 7 j)))
    rw [decide_eq_true h2.2.2, Bool.and_true, Bool.eq_iff_iff, Bool.or_eq_true, decide_eq_true_eq, decide_eq_true_eq, decide_eq_true_eq]
    omega
  · intro q ⟨I1, v11, v12⟩ hq ⟨hq0, f1, T1⟩ K2
    replace f1 : ∀ a j, a ≠ z + 1 → a ≠ z + 2 → I1 a j = I a j := f1
    replace T1 : cf_T z (cf_st D S h (fun c => decide (c / 8 < r) || (decide (c / 8 = r) && decide (c % 8 < q))) A) I1 := T1
    have hr8 : r < 8 := by omega
    have hq8 : q < 8 := by omega
    have hu : cd_und D (D 11 h) (8 * r + q) = true := by rw [hj]; exact cf_und.mpr ⟨⟨by omega, by omega⟩, by omega, by omega⟩
    -- what the hold would lift the cell to
    have hv : lineI - nI (D 9 j) * (if 0 ≤ nI q - (nI (S 1 (D 12 h)) - nI (S 1 (D 12 h)) / 8 * 8) then nI q - (nI (S 1 (D 12 h)) - nI (S 1 (D 12 h)) / 8 * 8) else 0 - (nI q - (nI (S 1 (D 12 h)) - nI (S 1 (D 12 h)) / 8 * 8))) = zI (cd_hby D S h (8 * r + q)) := by
      rw [show nI (S 1 (D 12 h)) - nI (S 1 (D 12 h)) / 8 * 8 = nI (S 1 (D 12 h) % 8) by rw [show (8 : Int32) = nI 8 from rfl]; exact pk_rem (by omega) (by decide) (by decide), cw_sub2, show (0 : Int32) = nI 0 from rfl, cw_mabs (by omega) (by omega), ce_abs_dst, cw_nzmul, hl, cw_zsub]
      congr 1
      unfold cd_hby cd_stp
      rw [hj, show (8 * r + q) / 8 = r by omega, show (8 * r + q) % 8 = q by omega, Int.natCast_add, Int.mul_add]
      omega
    have hb : -200 ≤ cd_hby D S h (8 * r + q) ∧ cd_hby D S h (8 * r + q) ≤ 200 := by
      have h14 := cd_stp_le (c := S 1 (D 12 h)) (d := 8 * r + q) hpk (by omega)
      unfold cd_hby
      rw [hj]
      have : D 9 j * cd_stp (S 1 (D 12 h)) (8 * r + q) ≤ 9 * 14 := Nat.mul_le_mul c9' h14
      have e2 : ((D 9 j * cd_stp (S 1 (D 12 h)) (8 * r + q) : Nat) : Int) = (D 9 j : Int) * (cd_stp (S 1 (D 12 h)) (8 * r + q) : Int) := Int.natCast_mul _ _
      omega
    obtain ⟨t1, t2⟩ := T1 j (8 * r + q) (by omega) (by omega)
    have eA : cf_st D S h (fun c => decide (c / 8 < r) || (decide (c / 8 = r) && decide (c % 8 < q))) A j (8 * r + q) = A j (8 * r + q) := by
      unfold cf_st
      rw [show (fun c => decide (c / 8 < r) || (decide (c / 8 = r) && decide (c % 8 < q))) (8 * r + q) = false by
        show (decide ((8 * r + q) / 8 < r) || (decide ((8 * r + q) / 8 = r) && decide ((8 * r + q) % 8 < q))) = false
        rw [decide_eq_false (show ¬ (8 * r + q) / 8 < r by omega), decide_eq_false (show ¬ (8 * r + q) % 8 < q by omega)]; cases decide ((8 * r + q) / 8 = r) <;> rfl, Bool.and_false]
      rfl
    rw [eA] at t1 t2
    have eB : cf_st D S h (fun _ => true) A (D 11 h) (8 * r + q) = (match A j (8 * r + q) with
      | none => some (h, cd_hby D S h (8 * r + q))
      | some y => if y.2 < cd_hby D S h (8 * r + q) then some (h, cd_hby D S h (8 * r + q)) else some y) := by
      unfold cf_st
      rw [hu, hj, Nat.beq_refl]
      rfl
    have stp := fun (I2 : Nat → Nat → Int32) f w1 w2 => cf_T_st (S := S) (I1 := I2) hr8 hq8 (by omega) hu T1 f w1 w2
    rw [hj] at stp eB
    have ix : nI j * 64 + nI r * 8 + nI q = nI (64 * j + (8 * r + q)) := by
      rw [show (64 : Int32) = nI 64 from rfl, show (8 : Int32) = nI 8 from rfl, pk_mul, pk_mul, nI_add, nI_add]
      congr 1
      omega
    show cw L w (cd_go 51 50 _ _ (cd_mm L w I1 J)) _
    refine cw_m (fun _ => cd_s51_50 hp hz) ?_
    rw [if_pos (cd_inN (by omega) (by decide)), hv, ix, nI_clamp (n := j) (by omega), hP7 I1 f1, nI_add, if_pos (nI_lt hq (by omega)), nI_1]
    have hin : cd_in (nI (64 * j + (8 * r + q))) 192 = true := cd_inN (by omega) (by decide)
    have hcl : (nI (64 * j + (8 * r + q))).toNatClampNeg = 64 * j + (8 * r + q) := nI_clamp (by omega)
    rw [if_pos hin, hcl, t1, t2, if_pos hin, if_pos hin, if_pos hin]
    -- the cell written
    have put : eA = eA → (cf_st D S h (fun _ => true) A j (8 * r + q) = some (h, cd_hby D S h (8 * r + q))) → cw L w (cd_go 51 50 [.ref z, .ref p, .int (nI h), .int (nI (S 1 (D 12 h))), .int (nI j), .int (nI (D 9 j)), .int (nI (D 5 j / 8)), .int (nI (D 5 j % 8)), .int (nI r), .int lineI, .int (nI (q + 1)), .int (zI (cd_hby D S h (8 * r + q))), .int (nI (64 * j + (8 * r + q)))] [] (cd_mm L w (cd_up (cd_up I1 (z + 1) (64 * j + (8 * r + q)) (zI (cd_hby D S h (8 * r + q)))) (z + 2) (64 * j + (8 * r + q)) (nI h)) J)) Q := fun _ hs => by
      refine K2 (cd_up (cd_up I1 (z + 1) (64 * j + (8 * r + q)) (zI (cd_hby D S h (8 * r + q)))) (z + 2) (64 * j + (8 * r + q)) (nI h), _, _) ⟨by omega, fun a b h1 h2 => ?_, ?_⟩
      · show cd_up (cd_up I1 _ _ _) _ _ _ a b = I a b
        rw [cd_up_a h2, cd_up_a h1]
        exact f1 a b h1 h2
      · refine stp _ (fun a b hab => ?_) ?_ ?_
        · show cd_up (cd_up I1 _ _ _) _ _ _ a b = I1 a b
          rw [cd_up_k2 (by omega), cd_up_k2 (by omega)]
        · show cd_up (cd_up I1 _ _ _) _ _ _ _ _ = _
          rw [cd_up_a (by omega), cd_up_s, hs]
        · show cd_up (cd_up I1 _ _ _) _ _ _ _ _ = _
          rw [cd_up_s, hs]
    cases hAj : A j (8 * r + q) with
    | none =>
      rw [hAj] at eB
      rw [if_pos (show (-1 : Int32) = -1 from rfl)]
      exact put rfl eB
    | some y =>
      obtain ⟨y12, yl, yu⟩ := hA j (8 * r + q) y (by omega) (by omega) hAj
      rw [hAj] at eB
      dsimp only at eB ⊢
      rw [if_neg (show ¬ nI y.1 = -1 from fun h => by
        rw [show (-1 : Int32) = zI (-1) from rfl, ← zI_n, zI_eq (by omega) (by omega) (by decide) (by decide)] at h
        omega)]
      by_cases hlt : y.2 < cd_hby D S h (8 * r + q)
      · rw [if_pos ((zI_lt (by omega) (by omega) (by omega) (by omega)).mpr hlt)]
        rw [if_pos hlt] at eB
        exact put rfl eB
      · rw [if_neg (fun h => hlt ((zI_lt (by omega) (by omega) (by omega) (by omega)).mp h))]
        rw [if_neg hlt] at eB
        refine K2 (I1, _, _) ⟨by omega, f1, stp I1 (fun _ _ _ => rfl) ?_ ?_⟩
        · rw [eB, t1, hAj]
        · rw [eB, t2, hAj]
  · have h1 := Nat.eq_of_beq_eq_true h1
    rw [hj] at h1
    subst h1
    have h2 := cf_und.mp h2
    show (decide (c / 8 < r) || (decide (c / 8 = r) && decide (c % 8 < D 5 j % 8))) = decide (c / 8 < r)
    rw [decide_eq_false (show ¬ c % 8 < D 5 j % 8 by omega), Bool.and_false, Bool.or_false]
end CFR
