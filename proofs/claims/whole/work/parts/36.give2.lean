/-! ===== the reference: isGiving ===== -/
theorem zI_d10 {a : Int} (h0 : 0 ≤ a) (h1 : a < (2 : Int) ^ 31) : zI a / 10 = zI (a / 10) := by
  obtain ⟨n, rfl⟩ := Int.eq_ofNat_of_zero_le h0
  have e : (10 : Int32) = nI 10 := rfl
  have e2 : ((n : Int) / 10) = ((n / 10 : Nat) : Int) := (Int.natCast_ediv n 10).symm
  rw [zI_n, e, pk_div (by omega) (by decide) (by decide), e2, zI_n]
theorem ce_has {h k : Nat} (hh : h < 2 ^ 31) (hk : k < 31) : decide ((nI h >>> (nI k &&& 31)) &&& 1 = 1) = h.testBit k := by
  have e : nI h >>> (nI k &&& 31) = nI (h / 2 ^ k) := pk_shrN hh _ k (s_l k (by omega))
  have e2 : nI (h / 2 ^ k) &&& 1 = nI (h / 2 ^ k % 2) := by
    have := fa_mask (h / 2 ^ k) 1
    exact this
  rw [e, e2, show (1 : Int32) = nI 1 from rfl]
  have h2 : nI (h / 2 ^ k % 2) = nI 1 ↔ h / 2 ^ k % 2 = 1 := nI_eq (by omega) (by decide)
  rw [decide_eq_decide.mpr h2, Nat.testBit_eq_decide_div_mod_eq]
section CDV
variable {L : Nat} {w : Bool} {I : Nat → Nat → Int32} {J : Nat → Nat → Int64} {D : cd_D} {S : cd_S}
theorem ce_giv_at {h k : Nat} {b : Int} : ce_giv D (ce_hnd S h) k b = (!(Nat.beq (S 2 k) 4 || h.testBit k) && decide (ce_most D S k < ce_dw D S k + b)) := by
  unfold ce_giv
  have e2 : ce_hnd S h 2 k = bif h.testBit k then 4 else S 2 k := rfl
  have ed : ce_dw D (ce_hnd S h) k = ce_dw D S k := rfl
  cases hb : h.testBit k with
  | true =>
    rw [e2, hb, Bool.or_true]
    rfl
  | false =>
    have em : ce_most D (ce_hnd S h) k = ce_most D S k := by
      have e3 : ce_hnd S h 2 k = S 2 k := by rw [e2, hb]; rfl
      unfold ce_most
      rw [e3]
      rfl
    rw [e2, hb, ed, em, Bool.or_false]
    rfl
theorem cp_179 (hD : cd_okD D) (hS : cd_okS D S) (hR : cd_refD D I) (hT : cd_refS D S I) (hN : ce_done D S I) {h : Nat} (hh : I 100 38 = nI h) (hh2 : h < 2 ^ 31) {k b : Nat} (hk : k < D 0 2) (hb : b < 2 ^ 20) : cd_c 179 [.ref 100, .int (nI k), .int (nI b)] (cd_mm L w I J) = some (some (.int (cd_tf (ce_giv D (ce_hnd S h) k (b : Int)))), cd_mm L w I J) := by
  have h12 := hD.1.2.2.1
  have h8 := hD.1.1
  obtain ⟨hc1, ht1⟩ := hD.2.2.2 k hk
  obtain ⟨s2, s3⟩ := hS.2.2.2 k hk
  obtain ⟨t2, t3, -⟩ := hT.2 k hk
  have hrub := (hD.2.1 _ ht1).2.2.2.2.1
  have hdw := ce_dw_b (S := S) hD k
  have hld := ce_load_nn D S k
  have hlb := (ce_draw_b (S := S) hD 2 k).2
  rw [ce_giv_at]
  refine cd_c_of (l := [.ref 100, .int (nI k), .int (nI b), .null]) rfl rfl (cd_s179_0 ?_)
  rw [if_pos (cd_inN (by omega) (by decide)), nI_clamp (by omega), t2]
  by_cases h4 : S 2 k = 4
  · rw [if_pos (by rw [h4]; rfl), h4]
    rfl
  · have b4 : Nat.beq (S 2 k) 4 = false := Bool.eq_false_iff.mpr fun q => h4 (Nat.eq_of_beq_eq_true q)
    have lit : ∀ n, n < 5 → ((nI (S 2 k) = (nI n)) ↔ S 2 k = n) := fun n hn => nI_eq (by omega) (by omega)
    rw [if_neg (fun q => h4 ((lit 4 (by decide)).mp q)), hh]
    refine cd_ci_s.mpr ⟨_, _, cp_139 _ _, cd_s179_10 ?_⟩
    rw [ce_has hh2 (by omega), b4, Bool.false_or]
    cases hq : h.testBit k with
    | true => rfl
    | false =>
      refine (if_pos (show cd_tf false = 0 by decide)).trans ?_
      have fin : ∀ m : Int, -(2 : Int) ^ 30 ≤ m → m < (2 : Int) ^ 30 → m = ce_most D S k → (cd_ci (cd_c 178 [.ref 100, .int (nI k)] (cd_mm L w I J))).bind (fun q => cd_go 179 59 [.ref 100, .int (nI k), .int (nI b), .int (zI m)] [.int q.1] q.2) = some (some (.int (cd_tf (!false && decide (ce_most D S k < ce_dw D S k + (b : Int))))), cd_mm L w I J) := fun m m1 m2 me => by
        refine cd_ci_s.mpr ⟨_, _, cp_178 hD hN hk, cd_s179_59 ?_⟩
        rw [← zI_n b, zI_add, ← me]
        by_cases hl : m < ce_dw D S k + (b : Int)
        · rw [if_pos ((zI_lt (by omega) (by omega) (by omega) (by omega)).mpr hl), decide_eq_true hl]
          rfl
        · rw [if_neg (fun q => hl ((zI_lt (by omega) (by omega) (by omega) (by omega)).mp q)), decide_eq_false hl]
          rfl
      have gi : cd_in (nI k) 12 = true := cd_inN (by omega) (by decide)
      simp only [gi, if_true]
      rw [nI_clamp (by omega), t2, (hR.2.2.2 k hk).2, (hN k hk).2.2, t3]
      by_cases h0 : S 2 k = 0
      · rw [if_pos ((lit 0 (by decide)).mpr h0), if_pos (cd_inN (by omega) (by decide)), nI_clamp (by omega), (hR.2.1 _ ht1).2.2.1, ← zI_n (D 3 _), zI_mul]
        have n1 : 0 ≤ ce_draw D S 2 k * (D 3 (D 12 k) : Int) := Int.mul_nonneg hld (by omega)
        have n2 : ce_draw D S 2 k * (D 3 (D 12 k) : Int) ≤ 1728 * 99 := Int.mul_le_mul hlb (by omega) (by omega) (by decide)
        rw [zI_d10 n1 (by omega)]
        refine fin _ (by omega) (by omega) ?_
        unfold ce_most
        rw [if_pos h0]
      · rw [if_neg (fun q => h0 ((lit 0 (by decide)).mp q))]
        by_cases h1 : S 2 k = 1
        · rw [if_pos ((lit 1 (by decide)).mpr h1)]
          refine fin 40 (by decide) (by decide) ?_
          unfold ce_most
          rw [if_neg h0, if_pos h1]
        · rw [if_neg (fun q => h1 ((lit 1 (by decide)).mp q))]
          by_cases h2 : S 2 k = 2
          · rw [if_pos ((lit 2 (by decide)).mpr h2), show (2 : Int32) = zI 2 from rfl, ← zI_n (S 3 k), zI_mul]
            refine fin _ (by omega) (by omega) ?_
            unfold ce_most
            rw [if_neg h0, if_neg h1, if_pos h2]
          · rw [if_neg (fun q => h2 ((lit 2 (by decide)).mp q))]
            refine fin 80 (by decide) (by decide) ?_
            unfold ce_most
            rw [if_neg h0, if_neg h1, if_neg h2]
end CDV
