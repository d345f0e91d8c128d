/-! ===== the reference: how high cloths hang ===== -/
theorem cd_lr_lt {D : cd_D} {S : cd_S} {j c m : Nat} : ∀ (n : Nat) (x : Option Nat × Int), n ≤ m → (∀ k, x.1 = some k → k < m) → ∀ k, (cd_lr D S j c n x).1 = some k → k < m := by
  intro n
  induction n with
  | zero => intro x _ hx k h; exact hx k h
  | succ n ih =>
    intro x hn hx k h
    unfold cd_lr at h
    refine ih _ (by omega) ?_ k h
    intro k2 h2
    split at h2
    · cases h2
      omega
    · exact hx k2 h2
theorem cd_leans_lt {D : cd_D} {S : cd_S} {j c k : Nat} (h : cd_leans D S j c = some k) : k < D 0 2 := cd_lr_lt _ _ (Nat.le_refl _) (fun k h => by cases h) k h
theorem cd_hangs_b {D : cd_D} {S : cd_S} (hD : cd_okD D) (hS : cd_okS D S) (j : Nat) {c : Nat} (hc : c < 64) : -200 ≤ cd_hangs D S j c ∧ cd_hangs D S j c ≤ 200 := by
  unfold cd_hangs
  cases hq : cd_leans D S j c with
  | none =>
    have := cd_gnd_le (S := S) hD c
    show (-200 : Int) ≤ (cd_gnd D S c : Int) ∧ (cd_gnd D S c : Int) ≤ 200
    omega
  | some k => exact cd_hby_b hD hS (cd_leans_lt hq) hc
section CDQ
variable {L : Nat} {w : Bool} {I : Nat → Nat → Int32} {J : Nat → Nat → Int64} {D : cd_D} {S : cd_S}
theorem cp_176 (hD : cd_okD D) (hS : cd_okS D S) (hR : cd_refD D I) (hT : cd_refS D S I) {j c : Nat} (hj : j < D 0 1) (hc : c < 64) : cd_c 176 [.ref 100, .int (nI j), .int (nI c)] (cd_mm L w I J) = some (some (.int (zI (cd_hangs D S j c))), cd_mm L w I J) := by
  have h12 := hD.1.2.2.1
  refine cd_c_of (l := [.ref 100, .int (nI j), .int (nI c), .null]) rfl rfl (cd_s176_0 (cd_ci_s.mpr ⟨_, _, cp_175 hD hS hR hT hj hc, cd_s176_4 ?_⟩))
  unfold cd_hangs
  cases hq : cd_leans D S j c with
  | none =>
    refine (if_pos (show (-1 : Int32) < 0 by decide)).trans (cd_ci_s.mpr ⟨_, _, cp_173 hD hS hR hT (by omega), cd_s176_10 (cd_s176_15 ?_)⟩)
    show _ = some (some (Value.int (zI (cd_gnd D S c : Int))), cd_mm L w I J)
    rw [zI_n]
  | some k =>
    have hk := cd_leans_lt hq
    exact (if_neg (nI_pos (n := k) (by omega))).trans (cd_ci_s.mpr ⟨_, _, cp_174 hD hS hR hT hk hc, cd_s176_15 rfl⟩)
end CDQ
