/-! ===== the class: a den told ===== -/
section CDO
variable {L : Nat} {w : Bool} {I : Nat → Nat → Int32} {J : Nat → Nat → Int64} {D : cd_D} {S : cd_S}
variable {Y : ce_Y}
theorem cw_cvw {w2 : Bool} {Q : Option Value → (Nat → Nat → Int32) → (Nat → Nat → Int64) → Prop} {x : Option cd_Ret} {f : cd_M → Option cd_Ret} (h : cw L w x (fun v I J => v = none ∧ cw L w2 (f (cd_mm L w I J)) Q)) : cw L w2 ((cd_cv x).bind f) Q := by
  obtain ⟨v, I, J, rfl, rfl, k⟩ := h
  exact k
theorem cp_40 : cw L w (cd_c 40 [.ref 6] (cd_mm L w I J)) (fun v I1 J1 => v = none ∧ J1 = J ∧ (∀ k, k < 256 → I1 8 k = -1) ∧ ∀ a k, a ≠ 8 → I1 a k = I a k) := by
  refine cw_c (l := [.ref 6]) rfl rfl ?_
  refine cw_m (fun _ => cd_s40_0) ?_
  refine cw_cv (cw_mono (cp_2 (n := 256) (by decide) (fun _ _ => ⟨rfl, rfl⟩) rfl rfl) ?_)
  intro v I1 J1 ⟨hv, hJ, f⟩
  refine ⟨hv, ?_⟩
  refine cw_m (fun _ => cd_s40_4) ?_
  exact cw_ret ⟨rfl, hJ, fun k hk => by rw [f, if_pos ⟨rfl, hk⟩], fun a k h => by rw [f, if_neg (fun q => h q.1)]⟩
theorem cp_41 : cd_c 41 [.ref 21] (cd_mm L w I J) = some (none, cd_mm L w (cd_up I 21 8 0) J) := cd_c_of (l := [.ref 21]) rfl rfl (cd_s41_0 rfl)
theorem cp_42t {a1 : Nat} : cw L w (cd_go 42 43 [.ref 2, .ref a1, .null] [] (cd_mm L w I J)) (fun v I1 J1 => J1 = J ∧ v = some (.int (I (cd_ple w) 2)) ∧ I1 42 2 = 0 ∧ I1 58 0 = 0 ∧ I1 58 1 = 0 ∧ (∀ k, k < 256 → I1 8 k = -1) ∧ I1 21 8 = 0 ∧ ∀ a k, a ≠ 8 → ¬ (a = 42 ∧ k = 2) → a ≠ 58 → ¬ (a = 21 ∧ k = 8) → I1 a k = I a k) := by
  refine cw_m (fun _ => cd_q42_43) ?_
  refine cw_if (fun _ => ?_) (fun q => absurd rfl q)
  refine cw_if (fun _ => ?_) (fun q => absurd rfl q)
  show cw L w (cd_go 42 49 [.ref 2, .ref a1, .int 0] [] (cd_mm L w (cd_up I 42 2 0) J)) _
  refine cw_m (fun _ => cd_q42_49) ?_
  refine cw_if (fun _ => ?_) (fun q => absurd (by decide) q)
  refine cw_if (fun _ => ?_) (fun q => absurd rfl q)
  refine cw_if (fun _ => ?_) (fun q => absurd ⟨rfl, rfl⟩ q)
  show cw L w (cd_go 42 49 [.ref 2, .ref a1, .int 1] [] (cd_mm L w (cd_up (cd_up I 42 2 0) 58 0 0) J)) _
  refine cw_m (fun _ => cd_q42_49) ?_
  refine cw_if (fun _ => ?_) (fun q => absurd (by decide) q)
  refine cw_if (fun _ => ?_) (fun q => absurd rfl q)
  refine cw_if (fun _ => ?_) (fun q => absurd ⟨rfl, rfl⟩ q)
  show cw L w (cd_go 42 49 [.ref 2, .ref a1, .int 2] [] (cd_mm L w (cd_up (cd_up (cd_up I 42 2 0) 58 0 0) 58 1 0) J)) _
  refine cw_m (fun _ => cd_q42_49) ?_
  refine cw_if (fun q => absurd q (by decide)) (fun _ => ?_)
  refine cw_if (fun _ => ?_) (fun q => absurd rfl q)
  refine cw_if (fun _ => ?_) (fun q => absurd rfl q)
  refine cw_if (fun _ => ?_) (fun q => absurd rfl q)
  refine cw_cv (cw_mono cp_40 ?_)
  intro v I1 J1 ⟨hv, hJ, h8, f⟩
  have hJ := hJ.symm
  subst hJ
  refine ⟨hv, ?_⟩
  refine cw_m (fun _ => cd_q42_63) ?_
  refine cw_if (fun _ => ?_) (fun q => absurd rfl q)
  refine cw_if (fun _ => ?_) (fun q => absurd rfl q)
  show cw L w ((cd_cv (cd_c 41 [.ref 21] (cd_mm L w I1 _))).bind _) _
  rw [cp_41, cw_bv]
  refine cw_m (fun _ => cd_q42_66) ?_
  refine cw_if (fun _ => ?_) (fun q => absurd rfl q)
  refine cw_if (fun _ => ?_) (fun q => absurd (by cases w <;> rfl) q)
  have hp := cf_ple w
  refine cw_ret ⟨rfl, ?_, ?_, ?_, ?_, fun k hk => ?_, cd_up_s, fun a k h1 h2 h3 h4 => ?_⟩
  · show some (Value.int (cd_up I1 21 8 0 (cd_ple w) 2)) = _
    rw [cd_up_a (by omega), f _ _ (by omega), cd_up_a (by omega), cd_up_a (by omega), cd_up_a (by omega)]
  · rw [cd_up_a (by decide), f _ _ (by decide), cd_up_a (by decide), cd_up_a (by decide), cd_up_s]
  · rw [cd_up_a (by decide), f _ _ (by decide), cd_up_k (by decide), cd_up_s]
  · rw [cd_up_a (by decide), f _ _ (by decide), cd_up_s]
  · rw [cd_up_a (by decide), h8 k hk]
  · rw [cd_up_k2 h4, f _ _ h1, cd_up_a h3, cd_up_a h3, cd_up_k2 h2]
theorem cf_swap : cd_wR (cd_wR (cd_mm L w I J) 2 12 (cd_plr w)) 2 13 (cd_ple w) = cd_mm L (!w) I J := by
  have h : cd_up (cd_up (cd_RF w) 2 12 (cd_plr w)) 2 13 (cd_ple w) = cd_RF (!w) := by
    funext a k
    rw [cw_uu, cw_uu]
    by_cases ha : a = 2
    · subst ha
      rw [if_pos rfl, if_pos rfl]
      by_cases hk : k = 13
      · subst hk
        rw [if_pos rfl]
        cases w <;> rfl
      · rw [if_neg hk]
        by_cases hk2 : k = 12
        · subst hk2
          rw [if_pos rfl]
          cases w <;> rfl
        · rw [if_neg hk2]
          unfold cd_RF
          rw [cw_beqf hk, cw_beqf hk2]
          rfl
    · rw [if_neg ha, if_neg ha]
      unfold cd_RF
      rw [cw_beqf ha]
      rfl
  show (_, _, _, _) = _
  unfold cd_mm
  exact congrArg (fun R => (cd_KL L, I, J, R)) h
theorem cp_42o {Q : Option Value → (Nat → Nat → Int32) → (Nat → Nat → Int64) → Prop} (h7 : I 3 7 = 0) (h : cw L (!w) ((cd_cv (cd_c 39 [.ref 45, .ref (cd_plr w + 13)] (cd_mm L (!w) (cd_up (cd_up I 3 1 0) 2 15 (I 3 8)) J))).bind fun m2 => cd_go 42 43 [.ref 2, .ref (cd_ple w), .null] [] m2) Q) : cw L (!w) (cd_go 42 8 [.ref 2, .null, .null] [] (cd_mm L w I J)) Q := by
  refine cw_m (fun _ => cd_q42_8) ?_
  rw [← cf_swap] at h
  refine cw_if (fun _ => ?_) (fun q => absurd rfl q)
  refine cw_if (fun _ => ?_) (fun q => absurd rfl q)
  refine cw_if (fun _ => ?_) (fun q => absurd rfl q)
  refine cw_if (fun _ => ?_) (fun q => absurd rfl q)
  refine cw_if (fun _ => ?_) (fun q => absurd rfl q)
  refine cw_if (fun _ => ?_) (fun q => absurd rfl q)
  refine cw_if (fun _ => ?_) (fun q => absurd rfl q)
  refine cw_if (fun _ => ?_) (fun q => absurd h7 q)
  refine cw_if (fun _ => ?_) (fun q => absurd rfl q)
  refine cw_if (fun _ => ?_) (fun q => absurd rfl q)
  refine cw_if (fun _ => ?_) (fun q => absurd rfl q)
  refine cw_if (fun _ => ?_) (fun q => absurd rfl q)
  refine cw_if (fun _ => ?_) (fun q => absurd rfl q)
  refine cw_if (fun _ => ?_) (fun q => absurd rfl q)
  refine cw_if (fun _ => ?_) (fun q => absurd (by cases w <;> rfl) q)
  refine cw_if (fun _ => ?_) (fun q => absurd rfl q)
  cases w
  · exact h
  · exact h
theorem cp_42f {Q : Option Value → (Nat → Nat → Int32) → (Nat → Nat → Int64) → Prop} (h7 : ¬ I 3 7 = 0) (h : Q (some (.int ((-10 : Int32) - I 3 7))) (cd_up (cd_up I 3 1 0) 2 15 (I 3 8)) J) : cw L w (cd_go 42 8 [.ref 2, .null, .null] [] (cd_mm L w I J)) Q := by
  refine cw_m (fun _ => cd_q42_8) ?_
  refine cw_if (fun _ => ?_) (fun q => absurd rfl q)
  refine cw_if (fun _ => ?_) (fun q => absurd rfl q)
  refine cw_if (fun _ => ?_) (fun q => absurd rfl q)
  refine cw_if (fun _ => ?_) (fun q => absurd rfl q)
  refine cw_if (fun _ => ?_) (fun q => absurd rfl q)
  refine cw_if (fun _ => ?_) (fun q => absurd rfl q)
  refine cw_if (fun _ => ?_) (fun q => absurd rfl q)
  refine cw_if (fun q => absurd q h7) (fun _ => ?_)
  refine cw_if (fun _ => ?_) (fun q => absurd rfl q)
  refine cw_if (fun _ => ?_) (fun q => absurd rfl q)
  exact cw_ret h
end CDO
