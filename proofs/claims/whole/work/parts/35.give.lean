/-! ===== the reference: what gives ===== -/
def ce_dw (D : cd_D) (S : cd_S) (k : Nat) : Int := ce_max (ce_abs (ce_draw D S 0 k)) (ce_abs (ce_draw D S 1 k))
def ce_most (D : cd_D) (S : cd_S) (k : Nat) : Int := if S 2 k = 0 then ce_draw D S 2 k * (D 3 (D 12 k) : Int) / 10 else if S 2 k = 1 then 40 else if S 2 k = 2 then 2 * (S 3 k : Int) else 80
/-- whether hold k gives, bumped by b -/
def ce_giv (D : cd_D) (S : cd_S) (k : Nat) (b : Int) : Bool := !Nat.beq (S 2 k) 4 && decide (ce_most D S k < ce_dw D S k + b)
/-- hands hold as what is trapped -/
def ce_hnd (S : cd_S) (h : Nat) : cd_S := fun r k => bif Nat.beq r 2 && h.testBit k then 4 else S r k
theorem ce_sgn_b (z : Int) : -1 ≤ ce_sgn z ∧ ce_sgn z ≤ 1 := by
  unfold ce_sgn
  split
  · omega
  · split <;> omega
theorem ce_sgn_m {a z : Int} (h0 : 0 ≤ a) (h : a ≤ 9) : -9 ≤ a * ce_sgn z ∧ a * ce_sgn z ≤ 9 := by
  unfold ce_sgn
  split
  · omega
  · split <;> omega
theorem ce_g_b {D : cd_D} {S : cd_S} (hD : cd_okD D) {q j c k : Nat} (hj : j < D 0 1) : -9 ≤ ce_g D S q j c k ∧ ce_g D S q j c k ≤ 9 := by
  have h := hD.2.2.1 j hj
  unfold ce_g
  split
  · exact ce_sgn_m (by omega) (by omega)
  · split
    · exact ce_sgn_m (by omega) (by omega)
    · omega
theorem ce_T_b {D : cd_D} {S : cd_S} (hD : cd_okD D) {q j c k : Nat} (hj : j < D 0 1) : -9 ≤ ce_T D S q j c k ∧ ce_T D S q j c k ≤ 9 := by
  unfold ce_T
  split
  · exact ce_g_b hD hj
  · omega
theorem ce_draw_b {D : cd_D} {S : cd_S} (hD : cd_okD D) (q k : Nat) : -1728 ≤ ce_draw D S q k ∧ ce_draw D S q k ≤ 1728 := by
  have h3 := hD.1.2.1
  have h := ce_sum_b (f := fun i => ce_sum (fun c => ce_T D S q i c k) 64) (b := 576) (D 0 1) (fun i hi => by
    have := ce_sum_b (f := fun c => ce_T D S q i c k) (b := 9) 64 (fun c _ => ce_T_b hD hi)
    omega)
  have e : ce_draw D S q k = ce_sum (fun i => ce_sum (fun c => ce_T D S q i c k) 64) (D 0 1) + 0 := rfl
  rw [e]
  omega
theorem ce_sum_nn {f : Nat → Int} : ∀ n, (∀ k, k < n → 0 ≤ f k) → 0 ≤ ce_sum f n := by
  intro n
  induction n with
  | zero => intro _; exact Int.le_refl 0
  | succ n ih =>
    intro h
    have h1 := ih (fun k hk => h k (by omega))
    have h2 := h n (by omega)
    unfold ce_sum
    omega
theorem ce_load_nn (D : cd_D) (S : cd_S) (k : Nat) : 0 ≤ ce_draw D S 2 k := by
  have e : ce_draw D S 2 k = ce_sum (fun i => ce_sum (fun c => ce_T D S 2 i c k) 64) (D 0 1) + 0 := rfl
  rw [e, Int.add_zero]
  refine ce_sum_nn _ (fun i _ => ce_sum_nn _ (fun c _ => ?_))
  unfold ce_T ce_g
  split
  · rw [if_neg (by decide), if_neg (by decide)]; omega
  · omega
theorem ce_dw_b {D : cd_D} {S : cd_S} (hD : cd_okD D) (k : Nat) : 0 ≤ ce_dw D S k ∧ ce_dw D S k ≤ 1728 := by
  have h0 := ce_draw_b (S := S) hD 0 k
  have h1 := ce_draw_b (S := S) hD 1 k
  have a0 := ce_abs_b h0.1 h0.2
  have a1 := ce_abs_b h1.1 h1.2
  unfold ce_dw ce_max
  split <;> omega
section CDU
variable {L : Nat} {w : Bool} {I : Nat → Nat → Int32} {J : Nat → Nat → Int64} {D : cd_D} {S : cd_S}
theorem ce_maxI {a b : Int} (h1 : -(2 : Int) ^ 30 ≤ a) (h2 : a < (2 : Int) ^ 30) (h3 : -(2 : Int) ^ 30 ≤ b) (h4 : b < (2 : Int) ^ 30) : (if zI b < zI a then zI a else zI b) = zI (ce_max a b) := by
  unfold ce_max
  by_cases h : b < a
  · rw [if_pos h, if_pos ((zI_lt (by omega) (by omega) (by omega) (by omega)).mpr h)]
  · rw [if_neg h, if_neg (fun q => h ((zI_lt (by omega) (by omega) (by omega) (by omega)).mp q))]
theorem cp_178 (hD : cd_okD D) (hN : ce_done D S I) {k : Nat} (hk : k < D 0 2) : cd_c 178 [.ref 100, .int (nI k)] (cd_mm L w I J) = some (some (.int (zI (ce_dw D S k))), cd_mm L w I J) := by
  have h12 := hD.1.2.2.1
  have b0 := ce_draw_b (S := S) hD 0 k
  have b1 := ce_draw_b (S := S) hD 1 k
  have a0 := ce_abs_b b0.1 b0.2
  have a1 := ce_abs_b b1.1 b1.2
  obtain ⟨n0, n1, -⟩ := hN k hk
  refine cd_c_of (l := [.ref 100, .int (nI k), .null, .null]) rfl rfl (cd_s178_0 ?_)
  rw [if_pos (cd_inN (by omega) (by decide)), nI_clamp (by omega), n0]
  refine cd_ci_s.mpr ⟨_, _, cp_144 _, cd_s178_5 ?_⟩
  rw [ce_absI (by omega) (by omega), if_pos (cd_inN (by omega) (by decide)), nI_clamp (by omega), n1]
  refine cd_ci_s.mpr ⟨_, _, cp_144 _, cd_s178_11 ?_⟩
  rw [ce_absI (by omega) (by omega)]
  have h := ce_maxI (a := ce_abs (ce_draw D S 0 k)) (b := ce_abs (ce_draw D S 1 k)) (by omega) (by omega) (by omega) (by omega)
  unfold ce_dw
  rw [← h]
  split <;> rfl
end CDU
