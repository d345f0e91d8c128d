/-! ===== the class: lay ===== -/
theorem cf_last_at {f : Nat → Nat} : ∀ {n t : Nat}, t < n → (∀ u, u < n → f u = f t → u = t) → cd_last (fun u => Nat.beq (f u) (f t)) n = some t := by
  intro n
  induction n with
  | zero => intro t h; omega
  | succ n ih =>
    intro t h hj
    unfold cd_last
    by_cases he : n = t
    · subst he
      rw [Nat.beq_refl, if_pos rfl]
    · rw [if_neg (fun q => he (hj n (by omega) (Nat.eq_of_beq_eq_true q)))]
      exact ih (by omega) (fun u hu => hj u (by omega))
theorem cf_gnd_at {D : cd_D} {S : cd_S} (hj : ce_inj D S) {t : Nat} (ht : t < D 0 0) : cd_gnd D S (S 1 t) = cd_top D S t := by
  unfold cd_gnd cd_thAt
  rw [cf_last_at ht (fun u hu h => hj u t hu ht h)]
section CFS
variable {L : Nat} {w : Bool} {I : Nat → Nat → Int32} {J : Nat → Nat → Int64} {D : cd_D} {S : cd_S}
variable {p s z : Nat}
theorem cp_51 (hp : p = 66 ∨ p = 83) (hz : z = 14 ∨ z = 38) (hD : cd_okD D) (hP : cf_P D p I J) (hS : ∀ t, t < D 0 0 → S 1 t < 64) {A : Nat → Nat → Option (Nat × Int)} (hA : cf_B A) {h : Nat} (hh : h < D 0 2) (hg : I (z + 3) (S 1 (D 12 h)) = nI (cd_top D S (D 12 h))) (hT : cf_T z A I) : cw L w (cd_c 51 [.ref z, .ref p, .int (nI h), .int (nI (S 1 (D 12 h)))] (cd_mm L w I J)) (fun v I1 J1 => v = none ∧ J1 = J ∧ (∀ a j, a ≠ z + 1 → a ≠ z + 2 → I1 a j = I a j) ∧ cf_T z (cf_st D S h (fun _ => true) A) I1) := by
  have h3 := hD.1.2.1
  have h12 := hD.1.2.2.1
  obtain ⟨d11, d12⟩ := hD.2.2.2 h hh
  obtain ⟨c5, c6, c56, c7, c57, c8, c8', c9, c9'⟩ := hD.2.2.1 _ d11
  have hpk := hS _ d12
  have htop := (cd_top_le (S := S) hD d12).2
  obtain ⟨r5, r6, r7, r8, r9, -⟩ := hP.2.2.1 _ d11
  obtain ⟨r11, -⟩ := hP.2.2.2 h hh
  refine cw_c (l := [.ref z, .ref p, .int (nI h), .int (nI (S 1 (D 12 h))), .null, .null, .null, .null, .null, .null, .null, .null, .null]) (by rcases hp with rfl | rfl <;> rcases hz with rfl | rfl <;> rfl) (by rcases hp with rfl | rfl <;> rcases hz with rfl | rfl <;> rfl) ?_
  refine cw_m (fun _ => cd_s51_0 hp hz) ?_
  rw [if_pos (cd_inN (by omega) (by decide)), nI_clamp (by omega), r11, if_pos (cd_inN (by omega) (by decide)), if_pos (cd_inN (by omega) (by decide)), if_pos (cd_inN (by omega) (by decide)), nI_clamp (by omega), r5, r9, show (8 : Int32) = nI 8 from rfl, pk_div (by omega) (by decide) (by decide), show nI (D 5 (D 11 h)) - nI (D 5 (D 11 h) / 8) * nI 8 = nI (D 5 (D 11 h) % 8) by rw [← pk_div (by omega) (by decide) (by decide)]; exact pk_rem (by omega) (by decide) (by decide)]
  have go := cw_up (L := L) (w := w) (Q := fun v I1 J1 => v = none ∧ J1 = J ∧ (∀ a j, a ≠ z + 1 → a ≠ z + 2 → I1 a j = I a j) ∧ cf_T z (cf_st D S h (fun _ => true) A) I1) (fun r (y : (Nat → Nat → Int32) × Value × Value × Value × Value) => cd_go 51 26 [.ref z, .ref p, .int (nI h), .int (nI (S 1 (D 12 h))), .int (nI (D 11 h)), .int (nI (D 9 (D 11 h))), .int (nI (D 5 (D 11 h) / 8)), .int (nI (D 5 (D 11 h) % 8)), .int (nI r), y.2.1, y.2.2.1, y.2.2.2.1, y.2.2.2.2] [] (cd_mm L w y.1 J)) (fun r y => D 5 (D 11 h) / 8 ≤ r ∧ (∀ a j, a ≠ z + 1 → a ≠ z + 2 → y.1 a j = I a j) ∧ cf_T z (cf_st D S h (fun c => decide (c / 8 < r)) A) y.1) (D 5 (D 11 h) / 8 + D 6 (D 11 h)) ?_ ?_ (D 5 (D 11 h) / 8) (I, .null, .null, .null, .null) (by omega) ⟨Nat.le_refl _, fun _ _ _ _ => rfl, hT.cong (fun k c hk hc => ?_)⟩
  · exact go
  · intro ⟨I1, v9, v10, v11, v12⟩ ⟨_, f1, T1⟩
    replace f1 : ∀ a j, a ≠ z + 1 → a ≠ z + 2 → I1 a j = I a j := f1
    show cw L w (cd_go 51 26 _ _ (cd_mm L w I1 J)) _
    refine cw_m (fun _ => cd_s51_26 hp hz) ?_
    rw [if_pos (cd_inN (by omega) (by decide)), nI_clamp (by omega), f1 _ _ (by omega) (by omega), r6, nI_add, if_neg (fun h => Int32.lt_irrefl h)]
    refine cw_ret ⟨rfl, rfl, f1, T1.cong (fun k c hk hc => cf_st_cong (fun h1 h2 => ?_))⟩
    have h1 := Nat.eq_of_beq_eq_true h1
    subst h1
    have h2 := cf_und.mp h2
    exact (decide_eq_true (show c / 8 < D 5 (D 11 h) / 8 + D 6 (D 11 h) by omega)).symm
  · intro r ⟨I1, v9, v10, v11, v12⟩ hr ⟨hr0, f1, T1⟩ K
    replace f1 : ∀ a j, a ≠ z + 1 → a ≠ z + 2 → I1 a j = I a j := f1
    replace T1 : cf_T z (cf_st D S h (fun c => decide (c / 8 < r)) A) I1 := T1
    show cw L w (cd_go 51 26 _ _ (cd_mm L w I1 J)) _
    refine cw_m (fun _ => cd_s51_26 hp hz) ?_
    rw [if_pos (cd_inN (by omega) (by decide)), nI_clamp (n := D 11 h) (by omega), f1 _ _ (by omega) (by omega), r6, nI_add, if_pos (nI_lt hr (by omega)), if_pos (cd_inN (by omega) (by decide)), nI_clamp (by omega), f1 _ _ (by omega) (by omega), hg]
    refine cp_51i hp hz hD (hP.of (fun a k h1 h2 => f1 a k (by omega) (by omega)) (fun _ => rfl)) hS hA hh hr0 hr ?_ htop (fun I2 w9 w10 w11 w12 f2 T2 => ?_) T1 v11 v12
    · rw [show (8 : Int32) = nI 8 from rfl, pk_div (by omega) (by decide) (by decide), cw_sub2, show (0 : Int32) = nI 0 from rfl, cw_mabs (by omega) (by omega), ce_abs_dst, cw_nzmul, ← zI_n, zI_sub]
    · exact K (I2, w9, w10, w11, w12) ⟨by omega, fun a j h1 h2 => (f2 a j h1 h2).trans (f1 a j h1 h2), T2⟩
  · unfold cf_st
    cases hb : Nat.beq (D 11 h) k && cd_und D k c with
    | false => rfl
    | true =>
      rw [Bool.and_eq_true] at hb
      have h1 := Nat.eq_of_beq_eq_true hb.1
      have h2 := hb.2
      subst h1
      have h2 := cf_und.mp h2
      rw [show (fun c => decide (c / 8 < D 5 (D 11 h) / 8)) c = false from decide_eq_false (by omega)]
      rfl
/-- the table as it is read: how high, which hold -/
def cf_V (z : Nat) (V : Nat → Nat → Int × Option Nat) (I : Nat → Nat → Int32) : Prop := ∀ k c, k < 3 → c < 64 → I (z + 1) (64 * k + c) = zI (V k c).1 ∧ I (z + 2) (64 * k + c) = cd_oi (V k c).2
def cf_av : Option (Nat × Int) → Int × Option Nat
  | none => (-1, none)
  | some y => (y.2, some y.1)
theorem cf_T.toV {A : Nat → Nat → Option (Nat × Int)} (h : cf_T z A I) : cf_V z (fun k c => cf_av (A k c)) I := fun k c hk hc => by
  obtain ⟨a, b⟩ := h k c hk hc
  rw [a, b]
  show _ = zI (cf_av (A k c)).1 ∧ _ = cd_oi (cf_av (A k c)).2
  cases A k c with
  | none => exact ⟨rfl, rfl⟩
  | some y => exact ⟨rfl, rfl⟩
theorem cf_V.cong {V V1 : Nat → Nat → Int × Option Nat} (h : cf_V z V I) (e : ∀ k c, k < 3 → c < 64 → V1 k c = V k c) : cf_V z V1 I := fun k c hk hc => by
  rw [e k c hk hc]
  exact h k c hk hc
/-- cells of cloth j that B takes are dropped -/
def cf_dr (D : cd_D) (S : cd_S) (j : Nat) (B : Nat → Bool) (V : Nat → Nat → Int × Option Nat) : Nat → Nat → Int × Option Nat := fun k c => if (Nat.beq j k && cd_und D k c) && B c && ((V k c).2.isNone || decide ((V k c).1 < (cd_gnd D S c : Int))) then ((cd_gnd D S c : Int), none) else V k c
theorem cp_52 (hp : p = 66 ∨ p = 83) (hz : z = 14 ∨ z = 38) (hD : cd_okD D) (hP : cf_P D p I J) {V : Nat → Nat → Int × Option Nat} (hV : ∀ k c, k < 3 → c < 64 → -200 ≤ (V k c).1 ∧ (V k c).1 ≤ 200 ∧ ∀ h, (V k c).2 = some h → h < 12) {j : Nat} (hj : j < D 0 1) (hg : ∀ c, c < 64 → I (z + 3) c = nI (cd_gnd D S c)) (hT : cf_V z V I) : cw L w (cd_c 52 [.ref z, .ref p, .int (nI j)] (cd_mm L w I J)) (fun v I1 J1 => v = none ∧ J1 = J ∧ (∀ a j, a ≠ z + 1 → a ≠ z + 2 → I1 a j = I a j) ∧ cf_V z (cf_dr D S j (fun _ => true) V) I1) := by
  have h3 := hD.1.2.1
  refine cw_c (l := [.ref z, .ref p, .int (nI j), .null, .null]) (by rcases hp with rfl | rfl <;> rcases hz with rfl | rfl <;> rfl) (by rcases hp with rfl | rfl <;> rcases hz with rfl | rfl <;> rfl) ?_
  refine cw_m (fun _ => cd_s52_0 hp hz) ?_
  have go := cw_up (L := L) (w := w) (Q := fun v I1 J1 => v = none ∧ J1 = J ∧ (∀ a j, a ≠ z + 1 → a ≠ z + 2 → I1 a j = I a j) ∧ cf_V z (cf_dr D S j (fun _ => true) V) I1) (fun i (y : (Nat → Nat → Int32) × Value) => cd_go 52 2 [.ref z, .ref p, .int (nI j), .int (nI i), y.2] [] (cd_mm L w y.1 J)) (fun i y => (∀ a j, a ≠ z + 1 → a ≠ z + 2 → y.1 a j = I a j) ∧ cf_V z (cf_dr D S j (fun c => decide (c < i)) V) y.1) 64 ?_ ?_ 0 (I, .null) (Nat.zero_le _) ⟨fun _ _ _ _ => rfl, hT.cong (fun k c hk hc => ?_)⟩
  · exact go
  · intro ⟨I1, v4⟩ ⟨f1, T1⟩
    show cw L w (cd_go 52 2 _ _ (cd_mm L w I1 J)) _
    refine cw_m (fun _ => cd_s52_2 hp hz) ?_
    rw [if_neg (show ¬ nI 64 < 64 by decide)]
    refine cw_ret ⟨rfl, rfl, f1, T1.cong (fun k c hk hc => ?_)⟩
    unfold cf_dr
    rw [show (fun c => decide (c < 64)) c = true from decide_eq_true hc]
  · intro i ⟨I1, v4⟩ hi ⟨f1, T1⟩ K
    replace f1 : ∀ a j, a ≠ z + 1 → a ≠ z + 2 → I1 a j = I a j := f1
    replace T1 : cf_V z (cf_dr D S j (fun c => decide (c < i)) V) I1 := T1
    have hP1 := hP.of (I1 := I1) (J1 := J) (fun a k h1 h2 => f1 a k (by omega) (by omega)) (fun _ => rfl)
    show cw L w (cd_go 52 2 _ _ (cd_mm L w I1 J)) _
    refine cw_m (fun _ => cd_s52_2 hp hz) ?_
    have ix : nI j * 64 + nI i = nI (64 * j + i) := by
      rw [show (64 : Int32) = nI 64 from rfl, pk_mul, nI_add, Nat.mul_comm]
    rw [if_pos (show nI i < 64 from nI_lt (b := 64) hi (by decide)), cp_29 hp hP1 h3 hj hi, cw_bi, ix]
    refine cw_m (fun _ => cd_s52_15 hp hz) ?_
    -- the others stand
    have oth : ∀ k c, k < 3 → c < 64 → ¬ (k = j ∧ c = i) → cf_dr D S j (fun c => decide (c < i + 1)) V k c = cf_dr D S j (fun c => decide (c < i)) V k c := fun k c hk hc hn => by
      unfold cf_dr
      by_cases hjk : j = k
      · have : (c < i + 1) ↔ (c < i) := by omega
        rw [show (fun c => decide (c < i + 1)) c = (fun c => decide (c < i)) c from decide_eq_decide.mpr this]
      · have : Nat.beq j k = false := by
          cases hb : Nat.beq j k with
          | false => rfl
          | true => exact absurd (Nat.eq_of_beq_eq_true hb) hjk
        rw [this]
        rfl
    have here : cf_dr D S j (fun c => decide (c < i)) V j i = V j i := by
      unfold cf_dr
      rw [show (fun c => decide (c < i)) i = false from decide_eq_false (Nat.lt_irrefl i), Bool.and_false, Bool.false_and, if_neg (by decide)]
    have new : cf_dr D S j (fun c => decide (c < i + 1)) V j i = if cd_und D j i && ((V j i).2.isNone || decide ((V j i).1 < (cd_gnd D S i : Int))) then ((cd_gnd D S i : Int), none) else V j i := by
      unfold cf_dr
      rw [Nat.beq_refl, Bool.true_and, show (fun c => decide (c < i + 1)) i = true from decide_eq_true (Nat.lt_succ_self i), Bool.and_true]
    have keep : cf_dr D S j (fun c => decide (c < i + 1)) V j i = V j i → ∀ v, cw L w (cd_go 52 2 [.ref z, .ref p, .int (nI j), .int (nI (i + 1)), v] [] (cd_mm L w I1 J)) _ := fun e v => K (I1, v) ⟨f1, fun k c hk hc => by
      by_cases he : k = j ∧ c = i
      · obtain ⟨rfl, rfl⟩ := he
        rw [e, ← here]
        exact T1 _ _ hk hc
      · rw [oth k c hk hc he]
        exact T1 k c hk hc⟩
    have put : cf_dr D S j (fun c => decide (c < i + 1)) V j i = ((cd_gnd D S i : Int), none) → ∀ v, cw L w (cd_go 52 2 [.ref z, .ref p, .int (nI j), .int (nI (i + 1)), v] [] (cd_mm L w (cd_up (cd_up I1 (z + 1) (64 * j + i) (nI (cd_gnd D S i))) (z + 2) (64 * j + i) (-1)) J)) _ := fun e v => K (cd_up (cd_up I1 (z + 1) (64 * j + i) (nI (cd_gnd D S i))) (z + 2) (64 * j + i) (-1), v) ⟨fun a b h1 h2 => by
      show cd_up (cd_up I1 _ _ _) _ _ _ a b = I a b
      rw [cd_up_a h2, cd_up_a h1]
      exact f1 a b h1 h2, fun k c hk hc => by
      show cd_up (cd_up I1 _ _ _) _ _ _ _ _ = _ ∧ cd_up (cd_up I1 _ _ _) _ _ _ _ _ = _
      by_cases he : k = j ∧ c = i
      · obtain ⟨rfl, rfl⟩ := he
        rw [e, cd_up_a (by omega), cd_up_s, cd_up_s]
        exact ⟨(zI_n _).symm, rfl⟩
      · rw [oth k c hk hc he, cd_up_k2 (by omega), cd_up_k2 (by omega), cd_up_k2 (by omega), cd_up_k2 (by omega)]
        exact T1 k c hk hc⟩
    obtain ⟨t1, t2⟩ := T1 j i (by omega) hi
    rw [here] at t1 t2
    obtain ⟨v1, v2, v3⟩ := hV j i (by omega) hi
    have hin : cd_in (nI (64 * j + i)) 192 = true := cd_inN (by omega) (by decide)
    have hcl : (nI (64 * j + i)).toNatClampNeg = 64 * j + i := nI_clamp (by omega)
    have hii : cd_in (nI i) 64 = true := cd_inN hi (by decide)
    have hci : (nI i).toNatClampNeg = i := nI_clamp (by omega)
    have hgi : I1 (z + 3) i = nI (cd_gnd D S i) := (f1 _ _ (by omega) (by omega)).trans (hg i hi)
    have hgl := cd_gnd_le (S := S) hD i
    rw [nI_1, hcl, hci, t1, t2, hgi]
    cases hu : cd_und D j i with
    | false =>
      rw [if_pos (show cd_tf false = 0 by decide)]
      exact keep (by rw [new, hu, Bool.false_and, if_neg (by decide)]) _
    | true =>
      rw [hu, Bool.true_and] at new
      rw [if_neg (show ¬ cd_tf true = 0 by decide), if_pos hin]
      cases hq : (V j i).2 with
      | none =>
        rw [if_pos (show cd_oi none = -1 from rfl), if_pos hii, if_pos hin, if_pos hin]
        exact put (by rw [new, hq]; rfl) _
      | some h =>
        have := v3 h hq
        rw [if_neg (show ¬ cd_oi (some h) = -1 from fun e => by
          rw [show cd_oi (some h) = nI h from rfl, show (-1 : Int32) = zI (-1) from rfl, ← zI_n, zI_eq (by omega) (by omega) (by decide) (by decide)] at e
          omega), if_pos hin, if_pos hii]
        rw [hq] at new
        by_cases hlt : (V j i).1 < (cd_gnd D S i : Int)
        · rw [← zI_n, if_pos ((zI_lt (by omega) (by omega) (by omega) (by omega)).mpr hlt), if_pos hii, if_pos hin, if_pos hin, zI_n]
          exact put (by rw [new, decide_eq_true hlt]; rfl) _
        · rw [← zI_n, if_neg (fun h => hlt ((zI_lt (by omega) (by omega) (by omega) (by omega)).mp h))]
          exact keep (by rw [new, decide_eq_false hlt]; rfl) _
  · unfold cf_dr
    rw [show (fun c => decide (c < 0)) c = false from rfl, Bool.and_false, Bool.false_and]
    rfl
/-- holds 0 .. n-1 stretched -/
def cf_A (D : cd_D) (S : cd_S) (n : Nat) : Nat → Nat → Option (Nat × Int) := fun k c => if decide (k < D 0 1) && cd_und D k c then ce_ca D S k c n else none
theorem cf_A_b {n : Nat} (hD : cd_okD D) (hS : cd_okS D S) (hn : n ≤ D 0 2) : cf_B (cf_A D S n) := fun k c y hk hc h => by
  unfold cf_A at h
  split at h
  · obtain ⟨h1, h2, h3, h4⟩ := ce_ca_lt h
    have h12 := hD.1.2.2.1
    have := cd_hby_b hD hS (k := y.1) (by omega) hc
    rw [← h4] at this
    omega
  · cases h
theorem cf_A_st {n : Nat} (hD : cd_okD D) (hn : n < D 0 2) (hh : cd_held S n = true) : ∀ k c, cf_A D S (n + 1) k c = cf_st D S n (fun _ => true) (cf_A D S n) k c := by
  intro k c
  have h11 := (hD.2.2.2 n hn).1
  unfold cf_st
  cases hb : Nat.beq (D 11 n) k with
  | false =>
    unfold cf_A
    rw [show ce_ca D S k c (n + 1) = if cd_held S n && Nat.beq (D 11 n) k then _ else ce_ca D S k c n from rfl, hb, Bool.and_false]
    rfl
  | true =>
    have he := Nat.eq_of_beq_eq_true hb
    subst he
    unfold cf_A
    rw [show ce_ca D S (D 11 n) c (n + 1) = if cd_held S n && Nat.beq (D 11 n) (D 11 n) then (match ce_ca D S (D 11 n) c n with
      | none => some (n, cd_hby D S n c)
      | some x => if x.2 < cd_hby D S n c then some (n, cd_hby D S n c) else some x) else ce_ca D S (D 11 n) c n from rfl, hb, hh, decide_eq_true h11]
    cases cd_und D (D 11 n) c with
    | false => rfl
    | true => rfl
theorem cf_A_no {n : Nat} (hh : cd_held S n = false) : ∀ k c, cf_A D S (n + 1) k c = cf_A D S n k c := by
  intro k c
  unfold cf_A
  rw [show ce_ca D S k c (n + 1) = if cd_held S n && Nat.beq (D 11 n) k then _ else ce_ca D S k c n from rfl, hh, Bool.false_and]
  rfl
/-- cloths 0 .. n-1 dropped -/
def cf_F (D : cd_D) (S : cd_S) (n : Nat) : Nat → Nat → Int × Option Nat := fun k c => if decide (k < n) && cd_und D k c then (cd_hangs D S k c, cd_leans D S k c) else cf_av (cf_A D S (D 0 2) k c)
theorem cf_F_st {n : Nat} (hn : n < D 0 1) : ∀ k c, cf_F D S (n + 1) k c = cf_dr D S n (fun _ => true) (cf_F D S n) k c := by
  intro k c
  unfold cf_dr
  by_cases hk : n = k
  · subst hk
    rw [Nat.beq_refl, Bool.true_and, Bool.and_true]
    have e0 : cf_F D S n n c = cf_av (cf_A D S (D 0 2) n c) := by
      unfold cf_F
      rw [decide_eq_false (Nat.lt_irrefl n), Bool.false_and]
      rfl
    rw [e0]
    unfold cf_F
    rw [decide_eq_true (Nat.lt_succ_self n), Bool.true_and]
    cases hu : cd_und D n c with
    | false => rfl
    | true =>
      rw [if_pos rfl, Bool.true_and, ce_hangs_ca, ce_leans_ca]
      unfold cf_A
      rw [decide_eq_true hn, hu, Bool.true_and, if_pos rfl]
      cases ce_ca D S n c (D 0 2) with
      | none => rfl
      | some y =>
        show ((if (cd_gnd D S c : Int) ≤ y.2 then y.2 else (cd_gnd D S c : Int)), if (cd_gnd D S c : Int) ≤ y.2 then some y.1 else none) = if (false || decide (y.2 < (cd_gnd D S c : Int))) then ((cd_gnd D S c : Int), none) else (y.2, some y.1)
        by_cases h : (cd_gnd D S c : Int) ≤ y.2
        · rw [if_pos h, if_pos h, decide_eq_false (by omega)]
          rfl
        · rw [if_neg h, if_neg h, decide_eq_true (by omega)]
          rfl
  · have hb : Nat.beq n k = false := by
      cases hb : Nat.beq n k with
      | false => rfl
      | true => exact absurd (Nat.eq_of_beq_eq_true hb) hk
    rw [hb]
    unfold cf_F
    have : (k < n + 1) ↔ (k < n) := by omega
    rw [decide_eq_decide.mpr this]
    rfl
theorem cf_F_b {n : Nat} (hD : cd_okD D) (hS : cd_okS D S) (hn : n ≤ D 0 1) : ∀ k c, k < 3 → c < 64 → -200 ≤ (cf_F D S n k c).1 ∧ (cf_F D S n k c).1 ≤ 200 ∧ ∀ h, (cf_F D S n k c).2 = some h → h < 12 := by
  intro k c hk hc
  have h12 := hD.1.2.2.1
  have hg := cd_gnd_le (S := S) hD c
  unfold cf_F
  split
  · rw [ce_hangs_ca, ce_leans_ca]
    cases hq : ce_ca D S k c (D 0 2) with
    | none => exact ⟨by dsimp only; omega, by dsimp only; omega, fun h hh => by cases hh⟩
    | some y =>
      obtain ⟨h1, h2, h3, h4⟩ := ce_ca_lt hq
      have := cd_hby_b hD hS (k := y.1) (by omega) hc
      rw [← h4] at this
      dsimp only
      refine ⟨by split <;> omega, by split <;> omega, fun h hh => ?_⟩
      split at hh
      · cases hh; omega
      · cases hh
  · cases hq : cf_A D S (D 0 2) k c with
    | none => exact ⟨by decide, by decide, fun h hh => by cases hh⟩
    | some y =>
      obtain ⟨h1, h2, h3⟩ := cf_A_b hD hS (Nat.le_refl _) k c y hk hc hq
      exact ⟨h2, h3, fun h hh => by cases hh; exact h1⟩
/-- what the table says in the end -/
def cf_H (D : cd_D) (S : cd_S) : Nat → Nat → Int × Option Nat := fun k c => if decide (k < D 0 1) && cd_und D k c then (cd_hangs D S k c, cd_leans D S k c) else (-1, none)
theorem cf_F_H : ∀ k c, cf_H D S k c = cf_F D S (D 0 1) k c := by
  intro k c
  unfold cf_H cf_F
  cases h : decide (k < D 0 1) && cd_und D k c with
  | true => rfl
  | false =>
    unfold cf_A
    rw [h]
    rfl
end CFS
