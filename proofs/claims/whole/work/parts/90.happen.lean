/-! ===== the class: what happens ===== -/
theorem cf_an_msk {f : Nat → Bool} {m n k : Nat} (hm : m < 2 ^ n) (hf : ∀ j, j < n → f j = (m.testBit j && !Nat.beq j k)) : ce_an m (2 ^ k) = ce_msk f n := by
  apply Nat.eq_of_testBit_eq
  intro i
  rw [ce_an_tb, ce_msk_tb, Nat.testBit_two_pow]
  by_cases hi : i < n
  · rw [decide_eq_true hi, Bool.true_and, hf i hi]
    by_cases hk : k = i
    · subst hk; rw [Nat.beq_refl, decide_eq_true rfl]
    · rw [decide_eq_false hk, show Nat.beq i k = false by
        cases hb : Nat.beq i k with
        | false => rfl
        | true => exact absurd (Nat.eq_of_beq_eq_true hb).symm hk]
  · rw [decide_eq_false hi, Bool.false_and, cf_low hm (by omega), Bool.false_and]
theorem cf_or_msk {f : Nat → Bool} {m n k : Nat} (hm : m < 2 ^ n) (hk : k < n) (hf : ∀ j, j < n → f j = (m.testBit j || Nat.beq j k)) : m ||| 2 ^ k = ce_msk f n := by
  apply Nat.eq_of_testBit_eq
  intro i
  rw [Nat.testBit_or, ce_msk_tb, Nat.testBit_two_pow]
  by_cases hi : i < n
  · rw [decide_eq_true hi, Bool.true_and, hf i hi]
    by_cases hk : k = i
    · subst hk; rw [Nat.beq_refl, decide_eq_true rfl]
    · rw [decide_eq_false hk, show Nat.beq i k = false by
        cases hb : Nat.beq i k with
        | false => rfl
        | true => exact absurd (Nat.eq_of_beq_eq_true hb).symm hk]
  · rw [decide_eq_false hi, Bool.false_and, cf_low hm (by omega), decide_eq_false (by omega)]
    rfl
section CGA
variable {L : Nat} {w : Bool} {I : Nat → Nat → Int32} {J : Nat → Nat → Int64} {D : cd_D} {S : cd_S}
variable {p s z : Nat}
theorem cp_80g (hp : p = 66 ∨ p = 83) (hs : s = 22 ∨ s = 45) (hD : cd_okD D) (hS : cd_okS D S) (hQ : cf_S D S s I) {k : Nat} (hk : k < D 0 2) (h4 : I 5 4 = nI 0) (h5 : I 5 5 = nI k) : cw L w (cd_c 80 [.ref 5, .ref p, .ref s] (cd_mm L w I J)) (fun v I1 J1 => v = none ∧ J1 = J ∧ (∀ a j, ¬ (s ≤ a ∧ a ≤ s + 3) → I1 a j = I a j) ∧ cf_S D (ce_hap D S (0, k)) s I1) := by
  have h12 := hD.1.2.2.1
  refine cw_c (l := [.ref 5, .ref p, .ref s, .null]) (by rcases hp with rfl | rfl <;> rcases hs with rfl | rfl <;> rfl) (by rcases hp with rfl | rfl <;> rcases hs with rfl | rfl <;> rfl) ?_
  refine cw_m (fun _ => cd_s80_0 hp hs) ?_
  rw [h4, if_pos (show nI 0 = 0 from rfl), h5, hQ.1.2, show (1 : Int32) <<< (nI k &&& 31) = nI (2 ^ k) from cw_sh1 (by omega), show (-1 : Int32) = zI (-1) from rfl, cw_andn]
  refine cw_ret ⟨rfl, rfl, fun a j h => cd_up_k2 (by omega), ⟨⟨(cd_up_k (by decide)).trans hQ.1.1, ?_⟩, fun t ht => (cd_up_k2 (by omega)).trans (hQ.2.1 t ht), fun j hj => ?_⟩⟩
  · rw [cd_up_s]
    show nI _ = nI (ce_msk (fun j => cd_held S j && !Nat.beq j k) (D 0 2))
    rw [cf_an_msk hS.2.2.1 (fun j _ => rfl)]
    rfl
  · rw [cd_up_k2 (by omega), cd_up_k2 (by omega)]
    exact hQ.2.2 j hj
theorem cp_80t (hp : p = 66 ∨ p = 83) (hs : s = 22 ∨ s = 45) (hD : cd_okD D) (hS : cd_okS D S) (hQ : cf_S D S s I) {k : Nat} (hk : k < D 0 0) (h4 : I 5 4 = nI 1) (h5 : I 5 5 = nI k) : cw L w (cd_c 80 [.ref 5, .ref p, .ref s] (cd_mm L w I J)) (fun v I1 J1 => v = none ∧ J1 = J ∧ (∀ a j, ¬ (s ≤ a ∧ a ≤ s + 3) → I1 a j = I a j) ∧ cf_S D (ce_hap D S (1, k)) s I1) := by
  have h8 := hD.1.1
  refine cw_c (l := [.ref 5, .ref p, .ref s, .null]) (by rcases hp with rfl | rfl <;> rcases hs with rfl | rfl <;> rfl) (by rcases hp with rfl | rfl <;> rcases hs with rfl | rfl <;> rfl) ?_
  refine cw_m (fun _ => cd_s80_0 hp hs) ?_
  rw [h4, if_neg (show ¬ nI 1 = 0 by decide), if_pos (show nI 1 = 1 from rfl), h5, hQ.1.1, show (1 : Int32) <<< (nI k &&& 31) = nI (2 ^ k) from cw_sh1 (by omega), cw_or]
  refine cw_ret ⟨rfl, rfl, fun a j h => cd_up_k2 (by omega), ⟨⟨?_, (cd_up_k (by decide)).trans hQ.1.2⟩, fun t ht => (cd_up_k2 (by omega)).trans (hQ.2.1 t ht), fun j hj => ?_⟩⟩
  · rw [cd_up_s]
    show nI _ = nI (ce_msk (fun t => (S 0 1).testBit t || Nat.beq t k) (D 0 0))
    rw [cf_or_msk hS.2.1 hk (fun j _ => rfl)]
  · rw [cd_up_k2 (by omega), cd_up_k2 (by omega)]
    exact hQ.2.2 j hj
theorem cp_80s (hp : p = 66 ∨ p = 83) (hs : s = 22 ∨ s = 45) (hD : cd_okD D) (hS : cd_okS D S) (hR : ce_okR D S) (hP : cf_P D p I J) (hQ : cf_S D S s I) {t c : Nat} (ht : t < D 0 0) (hc : ce_slid D S t = some c) (h4 : I 5 4 = nI 2) (h5 : I 5 5 = nI t) (h6 : I 5 6 = nI c) : cw L w (cd_c 80 [.ref 5, .ref p, .ref s] (cd_mm L w I J)) (fun v I1 J1 => v = none ∧ J1 = J ∧ (∀ a j, ¬ (s ≤ a ∧ a ≤ s + 3) → I1 a j = I a j) ∧ cf_S D (ce_hap D S (2, t)) s I1) := by
  have h12 := hD.1.2.2.1
  have h8 := hD.1.1
  have hc64 := ce_slid_lt (hS.1 t ht) hc
  have m1 : ∀ u, ce_mv D S t 1 u = if u = t then c else S 1 u := fun u => by
    show (bif Nat.beq 1 1 && Nat.beq u t then (ce_slid D S t).getD 0 else S 1 u) = _
    rw [hc]
    by_cases h : u = t
    · rw [if_pos h, h, Nat.beq_refl, Nat.beq_refl]; rfl
    · rw [if_neg h, show Nat.beq u t = false by
        cases hb : Nat.beq u t with
        | false => rfl
        | true => exact absurd (Nat.eq_of_beq_eq_true hb) h]; rfl
  refine cw_c (l := [.ref 5, .ref p, .ref s, .null]) (by rcases hp with rfl | rfl <;> rcases hs with rfl | rfl <;> rfl) (by rcases hp with rfl | rfl <;> rcases hs with rfl | rfl <;> rfl) ?_
  refine cw_m (fun _ => cd_s80_0 hp hs) ?_
  rw [h4, if_neg (show ¬ nI 2 = 0 by decide), if_neg (show ¬ nI 2 = 1 by decide), h5, if_pos (cd_inN (by omega) (by decide)), nI_clamp (by omega), h6]
  -- the holds by i
  have go := cw_up (L := L) (w := w) (Q := fun v I1 J1 => v = none ∧ J1 = J ∧ (∀ a j, ¬ (s ≤ a ∧ a ≤ s + 3) → I1 a j = I a j) ∧ cf_S D (ce_hap D S (2, t)) s I1) (fun i (I1 : Nat → Nat → Int32) => cd_go 80 38 [.ref 5, .ref p, .ref s, .int (nI i)] [] (cd_mm L w I1 J)) (fun i I1 => (∀ a j, ¬ (a = s + 1 ∧ j = t) → ¬ (a = s ∧ j = 2) → I1 a j = I a j) ∧ I1 (s + 1) t = nI c ∧ I1 s 2 = nI (ce_msk (fun j => cd_held S j && (if j < i then cd_und D (D 11 j) (ce_mv D S t 1 (D 12 j)) else true)) (D 0 2))) (D 0 2) ?_ ?_ 0 (cd_up I (s + 1) t (nI c)) (Nat.zero_le _) ⟨fun a j h1 _ => cd_up_k2 h1, cd_up_s, ?_⟩
  · exact go
  · intro I1 ⟨f1, g1, g2⟩
    refine cw_m (fun _ => cd_s80_38 hp hs) ?_
    rw [f1 _ _ (by omega) (by omega), hP.1.2.2.1, if_neg (fun h => Int32.lt_irrefl h)]
    refine cw_ret ⟨rfl, rfl, fun a j h => f1 a j (by omega) (by omega), ⟨⟨(f1 _ _ (by omega) (by omega)).trans hQ.1.1, ?_⟩, fun u hu => ?_, fun j hj => ?_⟩⟩
    · rw [g2]
      show _ = nI (ce_msk (fun j => cd_held S j && cd_und D (D 11 j) (ce_mv D S t 1 (D 12 j))) (D 0 2))
      rw [ce_msk_cong (g := fun j => cd_held S j && cd_und D (D 11 j) (ce_mv D S t 1 (D 12 j))) _ (fun j hj => by
        show (cd_held S j && (if j < D 0 2 then cd_und D (D 11 j) (ce_mv D S t 1 (D 12 j)) else true)) = _
        rw [if_pos hj])]
    · show _ = nI (ce_mv D S t 1 u)
      rw [m1]
      by_cases h : u = t
      · rw [if_pos h, h]; exact g1
      · rw [if_neg h, f1 _ _ (by omega) (by omega)]; exact hQ.2.1 u hu
    · rw [f1 _ _ (by omega) (by omega), f1 _ _ (by omega) (by omega)]
      exact hQ.2.2 j hj
  · intro i I1 hi ⟨f1, g1, g2⟩ K
    obtain ⟨d11, d12⟩ := hD.2.2.2 i hi
    have hP1 := hP.of (I1 := I1) (J1 := J) (fun a k h1 h2 => f1 a k (by omega) (by omega)) (fun _ => rfl)
    have hcell : ∀ u, u < D 0 0 → I1 (s + 1) u = nI (ce_mv D S t 1 u) := fun u hu => by
      rw [m1]
      by_cases h : u = t
      · rw [if_pos h, h]; exact g1
      · rw [if_neg h, f1 _ _ (by omega) (by omega)]; exact hQ.2.1 u hu
    have h64 : ∀ u, u < D 0 0 → ce_mv D S t 1 u < 64 := fun u hu => by
      rw [m1]
      split
      · exact hc64
      · exact hS.1 u hu
    -- the mask one on
    have same : (cd_held S i = true → cd_und D (D 11 i) (ce_mv D S t 1 (D 12 i)) = true) → I1 s 2 = nI (ce_msk (fun j => cd_held S j && (if j < i + 1 then cd_und D (D 11 j) (ce_mv D S t 1 (D 12 j)) else true)) (D 0 2)) := fun h => by
      rw [g2]
      congr 1
      refine ce_msk_cong _ (fun j hj => ?_)
      by_cases hji : j = i
      · subst hji
        rw [if_neg (Nat.lt_irrefl j), if_pos (Nat.lt_succ_self j)]
        cases hh : cd_held S j with
        | false => rfl
        | true => rw [h hh]
      · have : (j < i + 1) ↔ (j < i) := by omega
        simp only [this]
    refine cw_m (fun _ => cd_s80_38 hp hs) ?_
    rw [hP1.1.2.2.1, if_pos (nI_lt hi (by omega)), if_pos (cd_inN (by omega) (by decide)), nI_clamp (by omega), (hP1.2.2.2 i hi).2, f1 5 5 (by omega) (by omega), h5, nI_1]
    by_cases hti : D 12 i = t
    · rw [if_pos (by rw [hti]), cp_30 (S := ce_mv D S t) hp (by omega) hP1 hD hcell h64 hi, cw_bi]
      refine cw_m (fun _ => cd_s80_53 hp hs) ?_
      rw [nI_1]
      cases hu : cd_und D (D 11 i) (ce_mv D S t 1 (D 12 i)) with
      | true =>
        rw [if_neg (show ¬ cd_tf true = 0 by decide)]
        exact K I1 ⟨f1, g1, same (fun _ => hu)⟩
      | false =>
        rw [if_pos (show cd_tf false = 0 by decide), g2, show (1 : Int32) <<< (nI i &&& 31) = nI (2 ^ i) from cw_sh1 (by omega), show (-1 : Int32) = zI (-1) from rfl, cw_andn]
        refine K _ ⟨fun a j h1 h2 => (cd_up_k2 h2).trans (f1 a j h1 h2), (cd_up_a (by omega)).trans g1, ?_⟩
        rw [cd_up_s]
        congr 1
        refine cf_an_msk (ce_msk_lt _ _) (fun j hj => ?_)
        rw [ce_msk_tb, decide_eq_true hj, Bool.true_and]
        by_cases hji : j = i
        · subst hji
          rw [if_pos (Nat.lt_succ_self j), hu, Nat.beq_refl, Bool.and_false, Bool.not_true, Bool.and_false]
        · have : (j < i + 1) ↔ (j < i) := by omega
          rw [show Nat.beq j i = false by
            cases hb : Nat.beq j i with
            | false => rfl
            | true => exact absurd (Nat.eq_of_beq_eq_true hb) hji, Bool.not_false, Bool.and_true]
          simp only [this]
    · rw [if_neg (fun h => hti ((nI_eq (by omega) (by omega)).mp h))]
      refine K I1 ⟨f1, g1, same (fun hh => ?_)⟩
      rw [m1, if_neg hti]
      exact hR i hi hh
  · rw [cd_up_a (by omega), hQ.1.2]
    congr 1
    rw [← ce_msk_id hS.2.2.1]
    refine ce_msk_cong _ (fun j hj => ?_)
    rw [if_neg (Nat.not_lt_zero j), Bool.and_true]
    rfl
end CGA
