/-! ===== the class: what gives ===== -/
section CFW
variable {L : Nat} {w : Bool} {I : Nat → Nat → Int32} {J : Nat → Nat → Int64} {D : cd_D} {S : cd_S}
variable {p s z : Nat}
theorem cf_absI {a : Int} (h1 : -1728 ≤ a) (h2 : a ≤ 1728) : (if 0 ≤ zI a then zI a else 0 - zI a) = zI (ce_abs a) := by
  rw [show (0 : Int32) = nI 0 from rfl]
  exact cw_mabs (by omega) (by omega)
theorem cf_absB {a b : Int} (h1 : -b ≤ a) (h2 : a ≤ b) : 0 ≤ ce_abs a ∧ ce_abs a ≤ b := ce_abs_b h1 h2
theorem cf_maxI {a b : Int} (ha : 0 ≤ a ∧ a ≤ 100000) (hb : 0 ≤ b ∧ b ≤ 100000) : (if zI a < zI b then zI b else zI a) = zI (ce_max a b) := by
  rw [← cw_mmax]
  by_cases h : a < b
  · rw [if_pos h, if_pos ((zI_lt (by omega) (by omega) (by omega) (by omega)).mpr h)]
  · rw [if_neg h, if_neg (fun q => h ((zI_lt (by omega) (by omega) (by omega) (by omega)).mp q))]
theorem cp_65 (hD : cd_okD D) {i k : Nat} (hi : i < 256) (hk : k < D 0 2) (hW : cf_wq D S (12 * i) I) : cd_c 65 [.ref 6, .int (nI i), .int (nI k)] (cd_mm L w I J) = some (some (.int (zI (ce_dw D S k))), cd_mm L w I J) := by
  have h12 := hD.1.2.2.1
  obtain ⟨w1, w2, -⟩ := hW k hk
  have b1 := ce_draw_b (S := S) hD 0 k
  have b2 := ce_draw_b (S := S) hD 1 k
  have a1 := cf_absB (b := 1728) b1.1 b1.2
  have a2 := cf_absB (b := 1728) b2.1 b2.2
  have ix : nI i * 12 + nI k = nI (12 * i + k) := by rw [show (12 : Int32) = nI 12 from rfl, pk_mul, nI_add, Nat.mul_comm]
  refine cd_c_of (l := [_, _, _, _]) rfl rfl (cd_s65_0 ?_)
  rw [ix, if_pos (cd_inN (by omega) (by decide)), if_pos (cd_inN (by omega) (by decide)), nI_clamp (by omega), w1, w2, cf_absI b1.1 b1.2, cf_absI b2.1 b2.2, cf_maxI (by omega) (by omega)]
  rfl
theorem cp_66 (hD : cd_okD D) {i k : Nat} (hi : i < 256) (hk : k < D 0 2) (hW : cf_wq D S (12 * i) I) : cd_c 66 [.ref 6, .int (nI i), .int (nI k)] (cd_mm L w I J) = some (some (.int (zI (ce_draw D S 2 k))), cd_mm L w I J) := by
  have h12 := hD.1.2.2.1
  obtain ⟨-, -, w3⟩ := hW k hk
  have ix : nI i * 12 + nI k = nI (12 * i + k) := by rw [show (12 : Int32) = nI 12 from rfl, pk_mul, nI_add, Nat.mul_comm]
  refine cd_c_of (l := [_, _, _]) rfl rfl (cd_s66_0 ?_)
  rw [ix, if_pos (cd_inN (by omega) (by decide)), nI_clamp (by omega), w3]
theorem cf_draw0 (hD : cd_okD D) (k : Nat) : 0 ≤ ce_draw D S 2 k ∧ ce_draw D S 2 k ≤ 1728 := ⟨ce_load_nn D S k, (ce_draw_b hD 2 k).2⟩
theorem cp_75 (hp : p = 66 ∨ p = 83) (hs : s = 22 ∨ s = 45) (hD : cd_okD D) (hS : cd_okS D S) (hP : cf_P D p I J) (hQ : cf_S D S s I) {i k b : Nat} (hi : i < 256) (hk : k < D 0 2) (hb : b ≤ 999) (hW : cf_wq D S (12 * i) I) : cd_c 75 [.ref 5, .ref p, .ref s, .int (nI i), .int (nI k), .int (nI b)] (cd_mm L w I J) = some (some (.int (cd_tf (ce_giv D S k (b : Int)))), cd_mm L w I J) := by
  have h12 := hD.1.2.2.1
  have h8 := hD.1.1
  obtain ⟨d11, d12⟩ := hD.2.2.2 k hk
  obtain ⟨k4, k99⟩ := hS.2.2.2 k hk
  obtain ⟨q2, q3⟩ := hQ.2.2 k hk
  have b1 := ce_draw_b (S := S) hD 0 k
  have b2 := ce_draw_b (S := S) hD 1 k
  have a1 := cf_absB (b := 1728) b1.1 b1.2
  have a2 := cf_absB (b := 1728) b2.1 b2.2
  have hdw : 0 ≤ ce_dw D S k ∧ ce_dw D S k ≤ 1728 := by unfold ce_dw ce_max; split <;> omega
  have hl := cf_draw0 (S := S) hD k
  have hr := (hP.2.1 _ d12).2.2.1
  have dr := hD.2.1 _ d12
  have ans : ∀ m : Int, S 2 k ≠ 4 → ce_most D S k = m → cw L w (if zI m < zI (ce_dw D S k + (b : Int)) then some (some (.int 1), cd_mm L w I J) else some (some (.int 0), cd_mm L w I J)) (fun v I1 J1 => v = some (.int (cd_tf (ce_giv D S k (b : Int)))) ∧ I1 = I ∧ J1 = J) ∨ m < -100000 ∨ 1000000 < m := fun m h4 hm => by
    by_cases hr : m < -100000 ∨ 1000000 < m
    · exact Or.inr hr
    · refine Or.inl ?_
      unfold ce_giv
      rw [hm, show Nat.beq (S 2 k) 4 = false by
        cases hq : Nat.beq (S 2 k) 4 with
        | false => rfl
        | true => exact absurd (Nat.eq_of_beq_eq_true hq) h4, Bool.not_false, Bool.true_and]
      by_cases hlt : m < ce_dw D S k + (b : Int)
      · rw [if_pos ((zI_lt (by omega) (by omega) (by omega) (by omega)).mpr hlt), decide_eq_true hlt]
        exact cw_ret ⟨rfl, rfl, rfl⟩
      · rw [if_neg (fun q => hlt ((zI_lt (by omega) (by omega) (by omega) (by omega)).mp q)), decide_eq_false hlt]
        exact cw_ret ⟨rfl, rfl, rfl⟩
  refine cw_eq (cw_c (l := [.ref 5, .ref p, .ref s, .int (nI i), .int (nI k), .int (nI b), .null]) (by rcases hp with rfl | rfl <;> rcases hs with rfl | rfl <;> rfl) (by rcases hp with rfl | rfl <;> rcases hs with rfl | rfl <;> rfl) ?_)
  refine cw_m (fun _ => cd_s75_0 hp hs) ?_
  rw [cp_65 hD hi hk hW, cw_bi]
  refine cw_m (fun _ => cd_s75_5 hp hs) ?_
  rw [if_pos (cd_inN (by omega) (by decide)), nI_clamp (by omega), q2, q3, cw_znadd]
  have ne : ∀ j, j < 5 → S 2 k ≠ j → ¬ nI (S 2 k) = nI j := fun j hj h q => h ((nI_eq (by omega) (by omega)).mp q)
  by_cases k0 : S 2 k = 0
  · rw [if_pos (show nI (S 2 k) = 0 by rw [k0]; rfl), cp_66 hD hi hk hW, cw_bi]
    refine cw_m (fun _ => cd_s75_19 hp hs) ?_
    have hm : ce_draw D S 2 k * (D 3 (D 12 k) : Int) ≤ 1728 * 99 := Int.mul_le_mul hl.2 (by omega) (by omega) (by omega)
    have hm0 : 0 ≤ ce_draw D S 2 k * (D 3 (D 12 k) : Int) := Int.mul_nonneg hl.1 (by omega)
    rw [if_pos (cd_inN (by omega) (by decide)), nI_clamp (n := k) (by omega), (hP.2.2.2 k hk).2, if_pos (cd_inN (by omega) (by decide)), nI_clamp (by omega), hr, cw_znmul, show (10 : Int32) = nI 10 from rfl, cw_zd hm0 (by omega) (by decide) (by decide)]
    rcases ans (ce_draw D S 2 k * (D 3 (D 12 k) : Int) / ((10 : Nat) : Int)) (by omega) (by unfold ce_most; rw [if_pos k0]; rfl) with h | h
    · exact h
    · omega
  · rw [if_neg (show ¬ nI (S 2 k) = 0 from ne 0 (by decide) k0)]
    by_cases k1 : S 2 k = 1
    · rw [if_pos (show nI (S 2 k) = 1 by rw [k1]; rfl)]
      rcases ans 40 (by omega) (by unfold ce_most; rw [if_neg k0, if_pos k1]) with h | h
      · exact h
      · omega
    · rw [if_neg (show ¬ nI (S 2 k) = 1 from ne 1 (by decide) k1)]
      by_cases k2 : S 2 k = 2
      · rw [if_pos (show nI (S 2 k) = 2 by rw [k2]; rfl), if_pos (cd_inN (by omega) (by decide)), show (2 : Int32) = nI 2 from rfl, pk_mul, ← zI_n]
        rcases ans ((2 * S 3 k : Nat) : Int) (by omega) (by unfold ce_most; rw [if_neg k0, if_neg k1, if_pos k2]; omega) with h | h
        · exact h
        · omega
      · rw [if_neg (show ¬ nI (S 2 k) = 2 from ne 2 (by decide) k2)]
        by_cases k3 : S 2 k = 3
        · rw [if_pos (show nI (S 2 k) = 3 by rw [k3]; rfl)]
          rcases ans 80 (by omega) (by unfold ce_most; rw [if_neg k0, if_neg k1, if_neg k2]) with h | h
          · exact h
          · omega
        · rw [if_neg (show ¬ nI (S 2 k) = 3 from ne 3 (by decide) k3)]
          have : S 2 k = 4 := by omega
          refine cw_ret ⟨?_, rfl, rfl⟩
          unfold ce_giv
          rw [this]
          rfl
end CFW
