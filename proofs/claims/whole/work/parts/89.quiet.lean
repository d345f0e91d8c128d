/-! ===== the class: isQuiet ===== -/
section CFZ
variable {L : Nat} {w : Bool} {I : Nat → Nat → Int32} {J : Nat → Nat → Int64} {D : cd_D} {S : cd_S}
variable {p s z : Nat} {R : cd_S → Nat → Int32} {o : Option Nat} {b : Nat}
/-- what isQuiet leaves alone -/
def cf_fr79 (I J : Nat → Nat → Int32) : Prop := ∀ a j, ¬ (a = 5 ∨ 8 ≤ a ∧ a ≤ 12 ∨ 15 ≤ a ∧ a ≤ 20) → J a j = I a j
/-- an event found, or none -/
def cf_ev (D : cd_D) (S : cd_S) (x : Option (Nat × Nat)) (v : Option Value) (I1 : Nat → Nat → Int32) : Prop := match x with
  | none => v = some (.int (nI 1))
  | some e => v = some (.int (nI 0)) ∧ I1 5 4 = nI e.1 ∧ I1 5 5 = nI e.2 ∧ (e.1 = 2 → I1 5 6 = cd_oi (ce_slid D S e.2))
theorem cp_77 {x y u : Int32} : cd_c 77 [.ref 5, .int x, .int y, .int u] (cd_mm L w I J) = some (some (.int 0), cd_mm L w (cd_up (cd_up (cd_up I 5 4 x) 5 5 y) 5 6 u) J) := cd_c_of (l := [_, _, _, _]) rfl rfl (cd_s77_0 rfl)
theorem cf_up5 {x y u : Int32} : cd_up (cd_up (cd_up I 5 4 x) 5 5 y) 5 6 u 5 4 = x ∧ cd_up (cd_up (cd_up I 5 4 x) 5 5 y) 5 6 u 5 5 = y ∧ cd_up (cd_up (cd_up I 5 4 x) 5 5 y) 5 6 u 5 6 = u ∧ ∀ a j, a ≠ 5 → cd_up (cd_up (cd_up I 5 4 x) 5 5 y) 5 6 u a j = I a j := ⟨rfl, rfl, rfl, fun a j h => by rw [cd_up_a h, cd_up_a h, cd_up_a h]⟩
theorem cf_oiEq {t : Nat} (ht : t < 2 ^ 31) (ho : ∀ u, o = some u → u < 2 ^ 31) : (nI t = cd_oi o) ↔ o = some t := Iff.of_eq (cw_oie ho ht)
/-- the things that slide -/
theorem cp_79c (hp : p = 66 ∨ p = 83) (hs : s = 22 ∨ s = 45) (hD : cd_okD D) (hS : cd_okS D S) (hP : cf_P D p I J) (hQ : cf_S D S s I) (hG : cf_G D S (D 0 2) I) (ho : ∀ u, o = some u → u < 2 ^ 31) (hb : b ≤ 999) {x5 : Int32} (w7 : Value) : cw L w (cd_go 79 94 [.ref 5, .ref p, .ref s, .int (cd_oi o), .int (nI b), .int x5, .int (nI 0), w7] [] (cd_mm L w I J)) (fun v I1 J1 => J1 = J ∧ (∀ a j, a ≠ 5 → I1 a j = I a j) ∧ cf_ev D S ((ce_fst (ce_n2 D S o b) (D 0 0) 0).map fun t => (2, t)) v I1) := by
  have h8 := hD.1.1
  have go := cw_up (L := L) (w := w) (Q := fun v I1 J1 => J1 = J ∧ (∀ a j, a ≠ 5 → I1 a j = I a j) ∧ cf_ev D S ((ce_fst (ce_n2 D S o b) (D 0 0) 0).map fun t => (2, t)) v I1) (fun t (y : Value) => cd_go 79 94 [.ref 5, .ref p, .ref s, .int (cd_oi o), .int (nI b), .int x5, .int (nI t), y] [] (cd_mm L w I J)) (fun t _ => ce_fst (ce_n2 D S o b) (D 0 0) 0 = ce_fst (ce_n2 D S o b) (D 0 0 - t) t) (D 0 0) ?_ ?_ 0 w7 (Nat.zero_le _) rfl
  · exact go
  · intro y he
    refine cw_m (fun _ => cd_s79_94 hp hs) ?_
    rw [hP.1.1, if_neg (fun h => Int32.lt_irrefl h), he, Nat.sub_self]
    exact cw_ret ⟨rfl, fun _ _ _ => rfl, rfl⟩
  · intro t y ht he K
    rw [ce_fst_st ht] at he
    have hz := ce_size_b (S := S) hD t
    have hpb := ce_prs_b (S := S) hD (fun k hk => (hS.2.2.2 k hk).2) ht
    have dt := hD.2.1 t ht
    have g20 : I 20 t = zI (ce_prs D S t) := (hG t ht).2.2
    have hin : cd_in (nI t) 8 = true := cd_inN (by omega) (by decide)
    have hm : ce_prs D S t * (D 3 t : Int) ≤ 30000 * 99 := Int.mul_le_mul hpb.2 (by omega) (by omega) (by omega)
    have hm0 : 0 ≤ ce_prs D S t * (D 3 t : Int) := Int.mul_nonneg hpb.1 (by omega)
    have hbm : ce_bmp o b t ≤ 999 := by unfold ce_bmp; split <;> omega
    have hq0 : 0 ≤ ce_prs D S t * (D 3 t : Int) / 10 := Int.ediv_nonneg hm0 (by decide)
    refine cw_m (fun _ => cd_s79_94 hp hs) ?_
    rw [hP.1.1, if_pos (nI_lt ht (by omega)), cp_62 hD ht hG, cw_bi]
    refine cw_m (fun _ => cd_s79_101 hp hs) ?_
    have rest : ∀ m : Nat, m = ce_bmp o b t → cw L w (if zI (ce_prs D S t) * nI (D 3 t) / 10 < zI (ce_size D S t) + nI m then ((cd_ci (cd_c 78 [.ref 5, .ref p, .ref s, .int (nI t)] (cd_mm L w I J))).bind fun q => cd_go 79 127 [.ref 5, .ref p, .ref s, .int (cd_oi o), .int (nI b), .int x5, .int (nI t), .int (zI (ce_size D S t) + nI m)] [.int q.1] q.2) else cd_go 79 94 [.ref 5, .ref p, .ref s, .int (cd_oi o), .int (nI b), .int x5, .int (nI t + 1), .int (zI (ce_size D S t) + nI m)] [] (cd_mm L w I J)) (fun v I1 J1 => J1 = J ∧ (∀ a j, a ≠ 5 → I1 a j = I a j) ∧ cf_ev D S ((ce_fst (ce_n2 D S o b) (D 0 0) 0).map fun t => (2, t)) v I1) := fun m hmm => by
      subst hmm
      rw [cw_znmul, show (10 : Int32) = nI 10 from rfl, cw_zd hm0 (by omega) (by decide) (by decide), cw_znadd, nI_1]
      have hlt : (zI (ce_prs D S t * (D 3 t : Int) / ((10 : Nat) : Int)) < zI (ce_size D S t + (ce_bmp o b t : Nat))) ↔ ce_prs D S t * (D 3 t : Int) / 10 < ce_size D S t + (ce_bmp o b t : Nat) := zI_lt (by omega) (by omega) (by omega) (by omega)
      have en : ce_n2 D S o b t = (decide (ce_prs D S t * (D 3 t : Int) / 10 < ce_size D S t + (ce_bmp o b t : Nat)) && (ce_slid D S t).isSome) := rfl
      by_cases h1 : ce_prs D S t * (D 3 t : Int) / 10 < ce_size D S t + (ce_bmp o b t : Nat)
      · rw [if_pos (hlt.mpr h1), cp_78 hp hs hD hS hP hQ ht hG, cw_bi]
        refine cw_m (fun _ => cd_s79_127 hp hs) ?_
        cases hq : ce_slid D S t with
        | none =>
          rw [if_pos (show cd_oi none = -1 from rfl), nI_1]
          refine K _ ?_
          rw [he, en, hq, if_neg (by rw [Option.isSome_none, Bool.and_false]; decide)]
        | some c =>
          have hc : c < 64 := ce_slid_lt (hS.1 t ht) hq
          rw [if_neg (show ¬ cd_oi (some c) = -1 from fun e => by
            rw [show cd_oi (some c) = nI c from rfl, show (-1 : Int32) = zI (-1) from rfl, ← zI_n, zI_eq (by omega) (by omega) (by decide) (by decide)] at e
            omega), cp_78 hp hs hD hS hP hQ ht hG, cw_bi]
          refine cw_m (fun _ => cd_s79_137 hp hs) ?_
          rw [cp_77, cw_bi]
          refine cw_m (fun _ => cd_s79_138 hp hs) ?_
          show cw L w (if (0 : Int32) &&& 1 = 0 then some (some (.int 0), cd_mm L w _ _) else none) _
          rw [if_pos (show (0 : Int32) &&& 1 = 0 by decide)]
          rw [en, hq, decide_eq_true h1, Option.isSome_some, Bool.true_and, if_pos rfl] at he
          rw [he]
          obtain ⟨u1, u2, u3, u4⟩ := cf_up5 (I := I) (x := 2) (y := nI t) (u := cd_oi (ce_slid D S t))
          exact cw_ret ⟨rfl, u4, rfl, u1, u2, fun _ => u3⟩
      · rw [if_neg (fun h => h1 (hlt.mp h))]
        refine K _ ?_
        rw [he, en, decide_eq_false h1, Bool.false_and, if_neg (by decide)]
    by_cases hot : o = some t
    · rw [if_pos ((cf_oiEq (by omega) ho).mpr hot), if_pos hin, if_pos hin, nI_clamp (by omega), g20, (hP.2.1 t ht).2.2.1]
      exact rest b (by unfold ce_bmp; rw [if_pos hot])
    · rw [if_neg (fun h => hot ((cf_oiEq (by omega) ho).mp h)), if_pos hin, if_pos hin, nI_clamp (by omega), g20, (hP.2.1 t ht).2.2.1]
      exact rest 0 (by unfold ce_bmp; rw [if_neg hot])
/-- the things that tip -/
theorem cp_79b (hp : p = 66 ∨ p = 83) (hs : s = 22 ∨ s = 45) (hD : cd_okD D) (hS : cd_okS D S) (hP : cf_P D p I J) (hQ : cf_S D S s I) (hG : cf_G D S (D 0 2) I) (ho : ∀ u, o = some u → u < 2 ^ 31) (hb : b ≤ 999) {x5 : Int32} (w7 : Value) : cw L w (cd_go 79 49 [.ref 5, .ref p, .ref s, .int (cd_oi o), .int (nI b), .int x5, .int (nI 0), w7] [] (cd_mm L w I J)) (fun v I1 J1 => J1 = J ∧ (∀ a j, a ≠ 5 → I1 a j = I a j) ∧ cf_ev D S (match ce_fst (ce_n1 D S o b) (D 0 0) 0 with
    | some t => some (1, t)
    | none => (ce_fst (ce_n2 D S o b) (D 0 0) 0).map fun t => (2, t)) v I1) := by
  have h8 := hD.1.1
  have hl1 : S 0 1 < 65536 := Nat.lt_of_lt_of_le hS.2.1 (Nat.le_trans (Nat.pow_le_pow_right (by decide) h8) (by decide))
  have go := cw_up (L := L) (w := w) (Q := fun v I1 J1 => J1 = J ∧ (∀ a j, a ≠ 5 → I1 a j = I a j) ∧ cf_ev D S (match ce_fst (ce_n1 D S o b) (D 0 0) 0 with
    | some t => some (1, t)
    | none => (ce_fst (ce_n2 D S o b) (D 0 0) 0).map fun t => (2, t)) v I1) (fun t (y : Value) => cd_go 79 49 [.ref 5, .ref p, .ref s, .int (cd_oi o), .int (nI b), .int x5, .int (nI t), y] [] (cd_mm L w I J)) (fun t _ => ce_fst (ce_n1 D S o b) (D 0 0) 0 = ce_fst (ce_n1 D S o b) (D 0 0 - t) t) (D 0 0) ?_ ?_ 0 w7 (Nat.zero_le _) rfl
  · exact go
  · intro y he
    refine cw_m (fun _ => cd_s79_49 hp hs) ?_
    rw [hP.1.1, if_neg (fun h => Int32.lt_irrefl h), he, Nat.sub_self]
    exact cp_79c hp hs hD hS hP hQ hG ho hb y
  · intro t y ht he K
    rw [ce_fst_st ht] at he
    have hz := ce_size_b (S := S) hD t
    have dt := hD.2.1 t ht
    have hin : cd_in (nI t) 8 = true := cd_inN (by omega) (by decide)
    have hbm : ce_bmp o b t ≤ 999 := by unfold ce_bmp; split <;> omega
    have en : ce_n1 D S o b t = (!(S 0 1).testBit t && decide ((D 2 t : Int) * (D 4 t : Int) < (ce_size D S t + (ce_bmp o b t : Nat)) * (D 1 t : Int))) := rfl
    have hm : (ce_size D S t + (ce_bmp o b t : Nat)) * (D 1 t : Int) ≤ 24999 * 20 := Int.mul_le_mul (by omega) (by omega) (by omega) (by omega)
    have hm0 : 0 ≤ (ce_size D S t + (ce_bmp o b t : Nat)) * (D 1 t : Int) := Int.mul_nonneg (by omega) (by omega)
    have hw : (D 2 t : Int) * (D 4 t : Int) ≤ 99 * 9 := Int.mul_le_mul (by omega) (by omega) (by omega) (by omega)
    have hw0 : 0 ≤ (D 2 t : Int) * (D 4 t : Int) := Int.mul_nonneg (by omega) (by omega)
    refine cw_m (fun _ => cd_s79_49 hp hs) ?_
    rw [hP.1.1, if_pos (nI_lt ht (by omega)), cp_62 hD ht hG, cw_bi]
    refine cw_m (fun _ => cd_s79_56 hp hs) ?_
    have rest : ∀ m : Nat, m = ce_bmp o b t → cw L w ((cd_ci (cd_c 61 [.ref s, .int (nI t)] (cd_mm L w I J))).bind fun q => cd_go 79 67 [.ref 5, .ref p, .ref s, .int (cd_oi o), .int (nI b), .int x5, .int (nI t), .int (zI (ce_size D S t) + nI m)] [.int q.1] q.2) (fun v I1 J1 => J1 = J ∧ (∀ a j, a ≠ 5 → I1 a j = I a j) ∧ cf_ev D S (match ce_fst (ce_n1 D S o b) (D 0 0) 0 with
        | some t => some (1, t)
        | none => (ce_fst (ce_n2 D S o b) (D 0 0) 0).map fun t => (2, t)) v I1) := fun m hmm => by
      subst hmm
      rw [cp_61 hs hQ.1.1 hl1 (by omega), cw_bi]
      refine cw_m (fun _ => cd_s79_67 hp hs) ?_
      rw [nI_1]
      cases hl : (S 0 1).testBit t with
      | true =>
        rw [if_neg (show ¬ cd_tf true = 0 by decide)]
        refine K _ ?_
        rw [he, en, hl, Bool.not_true, Bool.false_and, if_neg (by decide)]
      | false =>
        have hlt : (zI ((D 2 t : Int) * (D 4 t : Int)) < zI ((ce_size D S t + (ce_bmp o b t : Nat)) * (D 1 t : Int))) ↔ (D 2 t : Int) * (D 4 t : Int) < (ce_size D S t + (ce_bmp o b t : Nat)) * (D 1 t : Int) := zI_lt (by omega) (by omega) (by omega) (by omega)
        rw [if_pos (show cd_tf false = 0 by decide), if_pos hin, if_pos hin, if_pos hin, nI_clamp (by omega), (hP.2.1 t ht).1, (hP.2.1 t ht).2.1, (hP.2.1 t ht).2.2.2, cw_znadd, cw_znmul, show nI (D 2 t) * nI (D 4 t) = zI ((D 2 t : Int) * (D 4 t : Int)) by rw [← zI_n, ← zI_n, zI_mul]]
        by_cases h1 : (D 2 t : Int) * (D 4 t : Int) < (ce_size D S t + (ce_bmp o b t : Nat)) * (D 1 t : Int)
        · rw [if_pos (hlt.mpr h1), cp_77, cw_bi]
          refine cw_m (fun _ => cd_s79_89 hp hs) ?_
          show cw L w (if (0 : Int32) &&& 1 = 0 then some (some (.int 0), cd_mm L w _ _) else none) _
          rw [if_pos (show (0 : Int32) &&& 1 = 0 by decide)]
          rw [en, hl, decide_eq_true h1, Bool.not_false, Bool.true_and, if_pos rfl] at he
          rw [he]
          obtain ⟨u1, u2, u3, u4⟩ := cf_up5 (I := I) (x := 1) (y := nI t) (u := -1)
          exact cw_ret ⟨rfl, u4, rfl, u1, u2, fun h => absurd h (show ¬ (1 : Nat) = 2 by decide)⟩
        · rw [if_neg (fun h => h1 (hlt.mp h))]
          refine K _ ?_
          rw [he, en, decide_eq_false h1, Bool.and_false, if_neg (by decide)]
    by_cases hot : o = some t
    · rw [if_pos ((cf_oiEq (by omega) ho).mpr hot)]
      exact rest b (by unfold ce_bmp; rw [if_pos hot])
    · rw [if_neg (fun h => hot ((cf_oiEq (by omega) ho).mp h))]
      exact rest 0 (by unfold ce_bmp; rw [if_neg hot])
theorem cp_79 (hp : p = 66 ∨ p = 83) (hs : s = 22 ∨ s = 45) (hD : cd_okD D) (hS : cd_okS D S) (hj : ce_inj D S) (hP : cf_P D p I J) (hQ : cf_S D S s I) (hC : cf_C D R I J) (ho : ∀ u, o = some u → u < 2 ^ 31) (hb : b ≤ 999) : cw L w (cd_c 79 [.ref 5, .ref p, .ref s, .int (cd_oi o), .int (nI b)] (cd_mm L w I J)) (fun v I1 J1 => (∀ a j, a ≠ 7 → J1 a j = J a j) ∧ cf_fr79 I I1 ∧ cf_C D R I1 J1 ∧ cf_ev D S (ce_next D S o b) v I1) := by
  have h8 := hD.1.1
  have h12 := hD.1.2.2.1
  have hl2 : S 0 2 < 65536 := Nat.lt_of_lt_of_le hS.2.2.1 (Nat.le_trans (Nat.pow_le_pow_right (by decide) h12) (by decide))
  refine cw_c (l := [.ref 5, .ref p, .ref s, .int (cd_oi o), .int (nI b), .null, .null, .null]) (by rcases hp with rfl | rfl <;> rcases hs with rfl | rfl <;> rfl) (by rcases hp with rfl | rfl <;> rcases hs with rfl | rfl <;> rfl) ?_
  refine cw_m (fun _ => cd_s79_0 hp hs) ?_
  refine cw_ci (cw_mono (cp_58 hp hs hD hS hj hP hQ hC) ?_)
  intro v I1 J1 ⟨k, hk, hv, fJ, f1, C1, W1, _, _⟩
  refine ⟨_, hv, ?_⟩
  have hP1 := hP.of (I1 := I1) (J1 := J1) (fun a k h1 h2 => f1 a k (by omega)) (fun j => fJ _ _ (by omega))
  have hQ1 := hQ.of (I1 := I1) (fun a k h1 h2 => f1 a k (by omega))
  refine cw_m (fun _ => cd_s79_5 hp hs) ?_
  have go := cw_up (L := L) (w := w) (Q := fun v I2 J2 => (∀ a j, a ≠ 7 → J2 a j = J a j) ∧ cf_fr79 I I2 ∧ cf_C D R I2 J2 ∧ cf_ev D S (ce_next D S o b) v I2) (fun i (y : Value) => cd_go 79 8 [.ref 5, .ref p, .ref s, .int (cd_oi o), .int (nI b), .int (nI k), .int (nI i), y] [] (cd_mm L w I1 J1)) (fun i _ => ce_fst (ce_n0 D S o b) (D 0 2) 0 = ce_fst (ce_n0 D S o b) (D 0 2 - i) i) (D 0 2) ?_ ?_ 0 .null (Nat.zero_le _) rfl
  · exact go
  · intro y he
    rw [Nat.sub_self] at he
    have enx : ce_next D S o b = (match ce_fst (ce_n1 D S o b) (D 0 0) 0 with
        | some t => some (1, t)
        | none => (ce_fst (ce_n2 D S o b) (D 0 0) 0).map fun t => (2, t)) := by
      unfold ce_next
      rw [he]
      cases ce_fst (ce_n1 D S o b) (D 0 0) 0 with
      | some t => rfl
      | none =>
        cases ce_fst (ce_n2 D S o b) (D 0 0) 0 with
        | some t => rfl
        | none => rfl
    rw [enx]
    refine cw_m (fun _ => cd_s79_8 hp hs) ?_
    rw [hP1.1.2.2.1, if_neg (fun h => Int32.lt_irrefl h)]
    refine cw_cv (cw_mono (cp_60 hp hs hD hS hP1 hQ1 hk W1) ?_)
    intro v I2 J2 ⟨hv, hJ2, f2, G2⟩
    have hJ2 := hJ2.symm
    subst hJ2
    refine ⟨hv, ?_⟩
    have hP2 := hP1.of (I1 := I2) (J1 := J1) (fun a k h1 h2 => f2 a k (by omega)) (fun _ => rfl)
    have hQ2 := hQ1.of (I1 := I2) (fun a k h1 h2 => f2 a k (by omega))
    refine cw_m (fun _ => cd_s79_47 hp hs) ?_
    refine cw_mono (cp_79b hp hs hD hS hP2 hQ2 G2 ho hb y) ?_
    intro v I3 J3 ⟨hJ3, f3, ev⟩
    have hJ3 := hJ3.symm
    subst hJ3
    refine ⟨fJ, fun a j h => by rw [f3 a j (by omega), f2 a j (by omega), f1 a j (by omega)], C1.of (fun a k h1 h2 => by rw [f3 a k (by omega), f2 a k (by omega)]) (fun _ => rfl), ev⟩
  · intro i y hi he K
    rw [ce_fst_st hi] at he
    obtain ⟨d11, d12⟩ := hD.2.2.2 i hi
    have hbm : ce_bmp o b (D 12 i) ≤ 999 := by unfold ce_bmp; split <;> omega
    have en : ce_n0 D S o b i = (cd_held S i && ce_giv D S i (ce_bmp o b (D 12 i) : Nat)) := rfl
    refine cw_m (fun _ => cd_s79_8 hp hs) ?_
    have rest : ∀ m : Nat, m = ce_bmp o b (D 12 i) → cw L w ((cd_ci (cd_c 59 [.ref s, .int (nI i)] (cd_mm L w I1 J1))).bind fun q => cd_go 79 25 [.ref 5, .ref p, .ref s, .int (cd_oi o), .int (nI b), .int (nI k), .int (nI i), .int (nI m)] [.int q.1] q.2) (fun v I2 J2 => (∀ a j, a ≠ 7 → J2 a j = J a j) ∧ cf_fr79 I I2 ∧ cf_C D R I2 J2 ∧ cf_ev D S (ce_next D S o b) v I2) := fun m hmm => by
      subst hmm
      rw [cp_59 hs hQ1.1.2 hl2 (by omega), cw_bi]
      refine cw_m (fun _ => cd_s79_25 hp hs) ?_
      rw [nI_1]
      cases hh : (S 0 2).testBit i with
      | false =>
        have hh : cd_held S i = false := hh
        rw [if_pos (show cd_tf false = 0 by decide)]
        refine K _ ?_
        rw [he, en, hh, Bool.false_and, if_neg (by decide)]
      | true =>
        have hh : cd_held S i = true := hh
        rw [if_neg (show ¬ cd_tf true = 0 by decide), cp_75 hp hs hD hS hP1 hQ1 hk hi hbm W1, cw_bi]
        refine cw_m (fun _ => cd_s79_33 hp hs) ?_
        rw [nI_1]
        cases hg : ce_giv D S i (ce_bmp o b (D 12 i) : Nat) with
        | false =>
          rw [if_pos (show cd_tf false = 0 by decide)]
          refine K _ ?_
          rw [he, en, hg, Bool.and_false, if_neg (by decide)]
        | true =>
          rw [if_neg (show ¬ cd_tf true = 0 by decide), cp_77, cw_bi]
          refine cw_m (fun _ => cd_s79_39 hp hs) ?_
          show cw L w (if (0 : Int32) &&& 1 = 0 then some (some (.int 0), cd_mm L w _ _) else none) _
          rw [if_pos (show (0 : Int32) &&& 1 = 0 by decide)]
          rw [en, hh, hg, Bool.true_and, if_pos rfl] at he
          have enx : ce_next D S o b = some (0, i) := by unfold ce_next; rw [he]
          rw [enx]
          obtain ⟨u1, u2, u3, u4⟩ := cf_up5 (I := I1) (x := 0) (y := nI i) (u := -1)
          exact cw_ret ⟨fJ, fun a j h => (u4 a j (by omega)).trans (f1 a j (by omega)), C1.of (fun a k h1 h2 => u4 a k (by omega)) (fun _ => rfl), rfl, u1, u2, fun h => absurd h (show ¬ (0 : Nat) = 2 by decide)⟩
    rw [hP1.1.2.2.1, if_pos (nI_lt hi (by omega)), if_pos (cd_inN (by omega) (by decide)), nI_clamp (by omega), (hP1.2.2.2 i hi).2]
    by_cases hot : o = some (D 12 i)
    · rw [if_pos ((cf_oiEq (by omega) ho).mpr hot)]
      exact rest b (by unfold ce_bmp; rw [if_pos hot])
    · rw [if_neg (fun h => hot ((cf_oiEq (by omega) ho).mp h))]
      exact rest 0 (by unfold ce_bmp; rw [if_neg hot])
end CFZ
