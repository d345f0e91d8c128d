/-! ===== the class: pulls gathered ===== -/
/-- the first n holds' part of a pull -/
def cf_pl (D : cd_D) (S : cd_S) (f : Nat → Int) (t n : Nat) : Int := ce_sum (fun k => if cd_held S k && Nat.beq (D 12 k) t then f k else 0) n
/-- what the settler's rows tell -/
def cf_G (D : cd_D) (S : cd_S) (n : Nat) (I : Nat → Nat → Int32) : Prop := ∀ t, t < D 0 0 → I 18 t = zI (cf_pl D S (ce_draw D S 0) t n) ∧ I 19 t = zI (cf_pl D S (ce_draw D S 1) t n) ∧ I 20 t = zI ((D 2 t : Int) + cf_pl D S (fun k => ce_draw D S 2 k + (S 3 k : Int)) t n)
section CFX
variable {L : Nat} {w : Bool} {I : Nat → Nat → Int32} {J : Nat → Nat → Int64} {D : cd_D} {S : cd_S}
variable {p s z : Nat}
theorem cf_pl_s {f : Nat → Int} {t n : Nat} : cf_pl D S f t (n + 1) = cf_pl D S f t n + if cd_held S n && Nat.beq (D 12 n) t then f n else 0 := rfl
theorem cp_60 (hp : p = 66 ∨ p = 83) (hs : s = 22 ∨ s = 45) (hD : cd_okD D) (hS : cd_okS D S) (hP : cf_P D p I J) (hQ : cf_S D S s I) {i : Nat} (hi : i < 256) (hW : cf_wq D S (12 * i) I) : cw L w (cd_c 60 [.ref 5, .ref p, .ref s, .int (nI i)] (cd_mm L w I J)) (fun v I1 J1 => v = none ∧ J1 = J ∧ (∀ a j, ¬ (18 ≤ a ∧ a ≤ 20) → I1 a j = I a j) ∧ cf_G D S (D 0 2) I1) := by
  have h12 := hD.1.2.2.1
  have h8 := hD.1.1
  have hl2 : S 0 2 < 65536 := Nat.lt_of_lt_of_le hS.2.2.1 (Nat.le_trans (Nat.pow_le_pow_right (by decide) h12) (by decide))
  refine cw_c (l := [.ref 5, .ref p, .ref s, .int (nI i), .null, .null]) (by rcases hp with rfl | rfl <;> rcases hs with rfl | rfl <;> rfl) (by rcases hp with rfl | rfl <;> rcases hs with rfl | rfl <;> rfl) ?_
  refine cw_m (fun _ => cd_s60_0 hp hs) ?_
  -- the holds
  have second : ∀ I2 : Nat → Nat → Int32, (∀ a j, ¬ (18 ≤ a ∧ a ≤ 20) → I2 a j = I a j) → cf_G D S 0 I2 → cw L w (cd_go 60 28 [.ref 5, .ref p, .ref s, .int (nI i), .int (nI 0), .null] [] (cd_mm L w I2 J)) (fun v I1 J1 => v = none ∧ J1 = J ∧ (∀ a j, ¬ (18 ≤ a ∧ a ≤ 20) → I1 a j = I a j) ∧ cf_G D S (D 0 2) I1) := by
    intro I2 f2 G2
    have go := cw_up (L := L) (w := w) (Q := fun v I1 J1 => v = none ∧ J1 = J ∧ (∀ a j, ¬ (18 ≤ a ∧ a ≤ 20) → I1 a j = I a j) ∧ cf_G D S (D 0 2) I1) (fun k (y : (Nat → Nat → Int32) × Value) => cd_go 60 28 [.ref 5, .ref p, .ref s, .int (nI i), .int (nI k), y.2] [] (cd_mm L w y.1 J)) (fun k y => (∀ a j, ¬ (18 ≤ a ∧ a ≤ 20) → y.1 a j = I a j) ∧ cf_G D S k y.1) (D 0 2) ?_ ?_ 0 (I2, .null) (Nat.zero_le _) ⟨f2, G2⟩
    · exact go
    · intro ⟨I3, v5⟩ ⟨f3, G3⟩
      replace f3 : ∀ a j, ¬ (18 ≤ a ∧ a ≤ 20) → I3 a j = I a j := f3
      show cw L w (cd_go 60 28 _ _ (cd_mm L w I3 J)) _
      refine cw_m (fun _ => cd_s60_28 hp hs) ?_
      rw [f3 _ _ (by omega), hP.1.2.2.1, if_neg (fun h => Int32.lt_irrefl h)]
      exact cw_ret ⟨rfl, rfl, f3, G3⟩
    · intro k ⟨I3, v5⟩ hk ⟨f3, G3⟩ K
      replace f3 : ∀ a j, ¬ (18 ≤ a ∧ a ≤ 20) → I3 a j = I a j := f3
      replace G3 : cf_G D S k I3 := G3
      obtain ⟨d11, d12⟩ := hD.2.2.2 k hk
      have hP3 := hP.of (I1 := I3) (J1 := J) (fun a k h1 h2 => f3 a k (by omega)) (fun _ => rfl)
      have hQ3 := hQ.of (I1 := I3) (fun a k h1 h2 => f3 a k (by omega))
      show cw L w (cd_go 60 28 _ _ (cd_mm L w I3 J)) _
      refine cw_m (fun _ => cd_s60_28 hp hs) ?_
      rw [hP3.1.2.2.1, if_pos (nI_lt hk (by omega)), cp_59 hs hQ3.1.2 hl2 (by omega), cw_bi]
      refine cw_m (fun _ => cd_s60_35 hp hs) ?_
      cases hb : (S 0 2).testBit k with
      | false =>
        rw [if_pos (show cd_tf false = 0 by decide), nI_1]
        refine K (I3, _) ⟨f3, fun t ht => ?_⟩
        have hb : cd_held S k = false := hb
        rw [cf_pl_s, cf_pl_s, cf_pl_s, hb, Bool.false_and, if_neg (by decide), if_neg (by decide), if_neg (by decide), Int.add_zero, Int.add_zero, Int.add_zero]
        exact G3 t ht
      | true =>
        have hb : cd_held S k = true := hb
        obtain ⟨w9, w10, w11⟩ := hW k hk
        have ix : nI i * 12 + nI k = nI (12 * i + k) := by rw [show (12 : Int32) = nI 12 from rfl, pk_mul, nI_add, Nat.mul_comm]
        obtain ⟨g18, g19, g20⟩ := G3 _ d12
        have e9 : I3 9 (12 * i + k) = zI (ce_draw D S 0 k) := (f3 _ _ (by omega)).trans w9
        have e10 : I3 10 (12 * i + k) = zI (ce_draw D S 1 k) := (f3 _ _ (by omega)).trans w10
        have e11 : I3 11 (12 * i + k) = zI (ce_draw D S 2 k) := (f3 _ _ (by omega)).trans w11
        have i12 : cd_in (nI (12 * i + k)) 3072 = true := cd_inN (by omega) (by decide)
        have i8 : cd_in (nI (D 12 k)) 8 = true := cd_inN (by omega) (by decide)
        have ik : cd_in (nI k) 12 = true := cd_inN (by omega) (by decide)
        have ns : ∀ b, b ≠ 18 → b ≠ 19 → b ≠ 20 → s + 3 ≠ b → True := fun _ _ _ _ _ => trivial
        rw [if_neg (show ¬ cd_tf true = 0 by decide), ix, nI_clamp (n := k) (by omega), (hP3.2.2.2 k hk).2, nI_clamp (n := 12 * i + k) (by omega), nI_clamp (n := D 12 k) (by omega), if_pos ik, if_pos i8, if_pos i12, if_pos i8, if_pos i8, if_pos i12, if_pos i8, if_pos i8, if_pos i12, if_pos ik, if_pos i8]
        have r19 : ∀ x, cd_up I3 18 (D 12 k) x 19 (D 12 k) = I3 19 (D 12 k) := fun x => cd_up_a (by decide)
        have r10 : ∀ x, cd_up I3 18 (D 12 k) x 10 (12 * i + k) = I3 10 (12 * i + k) := fun x => cd_up_a (by decide)
        have r20 : ∀ x y, cd_up (cd_up I3 18 (D 12 k) x) 19 (D 12 k) y 20 (D 12 k) = I3 20 (D 12 k) := fun x y => (cd_up_a (by decide)).trans (cd_up_a (by decide))
        have r11 : ∀ x y, cd_up (cd_up I3 18 (D 12 k) x) 19 (D 12 k) y 11 (12 * i + k) = I3 11 (12 * i + k) := fun x y => (cd_up_a (by decide)).trans (cd_up_a (by decide))
        have rs : ∀ x y, cd_up (cd_up I3 18 (D 12 k) x) 19 (D 12 k) y (s + 3) k = I3 (s + 3) k := fun x y => (cd_up_a (by omega)).trans (cd_up_a (by omega))
        rw [r19, r10, r20, r11, rs, g18, g19, g20, e9, e10, e11, (hQ3.2.2 k hk).2, nI_1]
        have key : ∀ x y u : Int32, x = zI (cf_pl D S (ce_draw D S 0) (D 12 k) k + ce_draw D S 0 k) → y = zI (cf_pl D S (ce_draw D S 1) (D 12 k) k + ce_draw D S 1 k) → u = zI ((D 2 (D 12 k) : Int) + (cf_pl D S (fun k => ce_draw D S 2 k + (S 3 k : Int)) (D 12 k) k + (ce_draw D S 2 k + (S 3 k : Int)))) → cf_G D S (k + 1) (cd_up (cd_up (cd_up I3 18 (D 12 k) x) 19 (D 12 k) y) 20 (D 12 k) u) := fun x y u hx hy hu t ht => by
          rw [cf_pl_s, cf_pl_s, cf_pl_s, hb, Bool.true_and]
          by_cases ht2 : t = D 12 k
          · subst ht2
            rw [Nat.beq_refl, if_pos rfl, if_pos rfl, if_pos rfl, cd_up_a (by decide), cd_up_a (by decide), cd_up_s, cd_up_a (by decide), cd_up_s, cd_up_s]
            exact ⟨hx, hy, hu⟩
          · have hne : Nat.beq (D 12 k) t = false := by
              cases hq : Nat.beq (D 12 k) t with
              | false => rfl
              | true => exact absurd (Nat.eq_of_beq_eq_true hq).symm ht2
            rw [hne, if_neg (by decide), if_neg (by decide), if_neg (by decide), Int.add_zero, Int.add_zero, Int.add_zero, cd_up_k2 (by omega), cd_up_k2 (by omega), cd_up_k2 (by omega), cd_up_k2 (by omega), cd_up_k2 (by omega), cd_up_k2 (by omega), cd_up_k2 (by omega), cd_up_k2 (by omega), cd_up_k2 (by omega)]
            exact G3 t ht
        refine K (_, _) ⟨fun a j hn => ?_, key _ _ _ ?_ ?_ ?_⟩
        · exact (cd_up_a (by omega)).trans ((cd_up_a (by omega)).trans ((cd_up_a (by omega)).trans (f3 a j hn)))
        · rw [zI_add]
        · rw [zI_add]
        · rw [← zI_n (S 3 k), zI_add, zI_add]
          congr 1
          omega
  -- the things
  refine cw_up (fun t (I3 : Nat → Nat → Int32) => cd_go 60 2 [.ref 5, .ref p, .ref s, .int (nI i), .int (nI t), .null] [] (cd_mm L w I3 J)) (fun t I3 => (∀ a j, ¬ (18 ≤ a ∧ a ≤ 20) → I3 a j = I a j) ∧ ∀ u, u < t → I3 18 u = nI 0 ∧ I3 19 u = nI 0 ∧ I3 20 u = nI (D 2 u)) (D 0 0) ?_ ?_ 0 I (Nat.zero_le _) ⟨fun _ _ _ => rfl, fun u hu => absurd hu (Nat.not_lt_zero u)⟩
  · intro I3 ⟨f3, G3⟩
    refine cw_m (fun _ => cd_s60_2 hp hs) ?_
    rw [f3 _ _ (by omega), hP.1.1, if_neg (fun h => Int32.lt_irrefl h)]
    refine second I3 f3 (fun t ht => ?_)
    obtain ⟨g1, g2, g3⟩ := G3 t ht
    rw [g1, g2, g3, ← zI_n, ← zI_n]
    refine ⟨rfl, rfl, ?_⟩
    show zI _ = zI ((D 2 t : Int) + 0)
    rw [Int.add_zero]
  · intro t I3 ht ⟨f3, G3⟩ K
    refine cw_m (fun _ => cd_s60_2 hp hs) ?_
    have it : cd_in (nI t) 8 = true := cd_inN (by omega) (by decide)
    have rp : ∀ x y, cd_up (cd_up I3 18 t x) 19 t y (p + 2) t = I3 (p + 2) t := fun x y => (cd_up_a (by omega)).trans (cd_up_a (by omega))
    rw [f3 _ _ (by omega), hP.1.1, if_pos (nI_lt ht (by omega)), if_pos it, if_pos it, if_pos it, if_pos it, nI_clamp (by omega), rp, f3 _ _ (by omega), (hP.2.1 t ht).2.1, nI_1]
    refine K _ ⟨fun a j hn => ?_, fun u hu => ?_⟩
    · rw [cd_up_a (by omega), cd_up_a (by omega), cd_up_a (by omega)]
      exact f3 a j hn
    · by_cases hut : u = t
      · subst hut
        rw [cd_up_a (by decide), cd_up_a (by decide), cd_up_s, cd_up_a (by decide), cd_up_s, cd_up_s]
        exact ⟨rfl, rfl, rfl⟩
      · rw [cd_up_k2 (by omega), cd_up_k2 (by omega), cd_up_k2 (by omega), cd_up_k2 (by omega), cd_up_k2 (by omega), cd_up_k2 (by omega), cd_up_k2 (by omega), cd_up_k2 (by omega), cd_up_k2 (by omega)]
        exact G3 u (by omega)
end CFX
