/-! ===== the class: what happens ===== -/
theorem cf_an_msk {f : Nat → Bool} {m n k : Nat} (hm : m < 2 ^ n) (hf : ∀ j, j < n → f j = (m.testBit j && !Nat.beq j k)) : ce_an m (2 ^ k) = ce_msk f n := by
  apply Nat.eq_of_testBit_eq
  intro i
  rw [ce_an_tb, ce_msk_tb, Nat.testBit_two_pow]
  by_cases hi : i < n
  · rw [decide_eq_true hi, Bool.true_and, hf i hi]
    by_cases hk : k = i
    · subst hk; rw [Nat.beq_refl, decide_eq_true rfl]
    · rw [decide_eq_false hk, show Nat.beq i k = false by
        cases hb : Nat.beq i k with
        | false => rfl
        | true => exact absurd (Nat.eq_of_beq_eq_true hb).symm hk]
  · rw [decide_eq_false hi, Bool.false_and, cf_low hm (by omega), Bool.false_and]
theorem cf_or_msk {f : Nat → Bool} {m n k : Nat} (hm : m < 2 ^ n) (hk : k < n) (hf : ∀ j, j < n → f j = (m.testBit j || Nat.beq j k)) : m ||| 2 ^ k = ce_msk f n := by
  apply Nat.eq_of_testBit_eq
  intro i
  rw [Nat.testBit_or, ce_msk_tb, Nat.testBit_two_pow]
  by_cases hi : i < n
  · rw [decide_eq_true hi, Bool.true_and, hf i hi]
    by_cases hk : k = i
    · subst hk; rw [Nat.beq_refl, decide_eq_true rfl]
    · rw [decide_eq_false hk, show Nat.beq i k = false by
        cases hb : Nat.beq i k with
        | false => rfl
        | true => exact absurd (Nat.eq_of_beq_eq_true hb).symm hk]
  · rw [decide_eq_false hi, Bool.false_and, cf_low hm (by omega), decide_eq_false (by omega)]
    rfl
section CGA
variable {L : Nat} {w : Bool} {I : Nat → Nat → Int32} {J : Nat → Nat → Int64} {D : cd_D} {S : cd_S}
variable {p s z : Nat}
theorem cp_80g (hp : p = 66 ∨ p = 83) (hs : s = 22 ∨ s = 45) (hD : cd_okD D) (hS : cd_okS D S) (hQ : cf_S D S s I) {k : Nat} (hk : k < D 0 2) (h4 : I 5 4 = nI 0) (h5 : I 5 5 = nI k) : cw L w (cd_c 80 [.ref 5, .ref p, .ref s] (cd_mm L w I J)) (fun v I1 J1 => v = none ∧ J1 = J ∧ (∀ a j, ¬ (s ≤ a ∧ a ≤ s + 3) → I1 a j = I a j) ∧ cf_S D (ce_hap D S (0, k)) s I1) := by
  have h12 := hD.1.2.2.1
  refine cw_c (l := [.ref 5, .ref p, .ref s, .null]) (by rcases hp with rfl | rfl <;> rcases hs with rfl | rfl <;> rfl) (by rcases hp with rfl | rfl <;> rcases hs with rfl | rfl <;> rfl) ?_
  refine cw_m (fun _ => cd_s80_0 hp hs) ?_
  rw [h4, if_pos (show nI 0 = 0 from rfl), h5, hQ.1.2, show (1 : Int32) <<< (nI k &&& 31) = nI (2 ^ k) from cw_sh1 (by omega), show (-1 : Int32) = zI (-1) from rfl, cw_andn]
  refine cw_ret ⟨rfl, rfl, fun a j h => cd_up_k2 (by omega), ⟨⟨(cd_up_k (by decide)).trans hQ.1.1, ?_⟩, fun t ht => (cd_up_k2 (by omega)).trans (hQ.2.1 t ht), fun j hj => ?_⟩⟩
  · rw [cd_up_s]
    show nI _ = nI (ce_msk (fun j => cd_held S j && !Nat.beq j k) (D 0 2))
    rw [cf_an_msk hS.2.2.1 (fun j _ => rfl)]
    rfl
  · rw [cd_up_k2 (by omega), cd_up_k2 (by omega)]
    exact hQ.2.2 j hj
theorem cp_80t (hp : p = 66 ∨ p = 83) (hs : s = 22 ∨ s = 45) (hD : cd_okD D) (hS : cd_okS D S) (hQ : cf_S D S s I) {k : Nat} (hk : k < D 0 0) (h4 : I 5 4 = nI 1) (h5 : I 5 5 = nI k) : cw L w (cd_c 80 [.ref 5, .ref p, .ref s] (cd_mm L w I J)) (fun v I1 J1 => v = none ∧ J1 = J ∧ (∀ a j, ¬ (s ≤ a ∧ a ≤ s + 3) → I1 a j = I a j) ∧ cf_S D (ce_hap D S (1, k)) s I1) := by
  have h8 := hD.1.1
  refine cw_c (l := [.ref 5, .ref p, .ref s, .null]) (by rcases hp with rfl | rfl <;> rcases hs with rfl | rfl <;> rfl) (by rcases hp with rfl | rfl <;> rcases hs with rfl | rfl <;> rfl) ?_
  refine cw_m (fun _ => cd_s80_0 hp hs) ?_
  rw [h4, if_neg (show ¬ nI 1 = 0 by decide), if_pos (show nI 1 = 1 from rfl), h5, hQ.1.1, show (1 : Int32) <<< (nI k &&& 31) = nI (2 ^ k) from cw_sh1 (by omega), cw_or]
  refine cw_ret ⟨rfl, rfl, fun a j h => cd_up_k2 (by omega), ⟨⟨?_, (cd_up_k (by decide)).trans hQ.1.2⟩, fun t ht => (cd_up_k2 (by omega)).trans (hQ.2.1 t ht), fun j hj => ?_⟩⟩
  · rw [cd_up_s]
    show nI _ = nI (ce_msk (fun t => (S 0 1).testBit t || Nat.beq t k) (D 0 0))
    rw [cf_or_msk hS.2.1 hk (fun j _ => rfl)]
  · rw [cd_up_k2 (by omega), cd_up_k2 (by omega)]
    exact hQ.2.2 j hj
end CGA
