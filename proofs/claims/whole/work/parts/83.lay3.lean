/-! ===== the class: lay, whole ===== -/
section CFT
variable {L : Nat} {w : Bool} {I : Nat → Nat → Int32} {J : Nat → Nat → Int64} {D : cd_D} {S : cd_S}
variable {p s z : Nat}
/-- the ground of the first n things -/
def cf_gr (D : cd_D) (S : cd_S) (n c : Nat) : Nat := match cd_last (fun t => Nat.beq (S 1 t) c) n with
  | none => 0
  | some t => cd_top D S t
theorem cp_53 (hp : p = 66 ∨ p = 83) (hs : s = 22 ∨ s = 45) (hz : z = 14 ∨ z = 38) (hD : cd_okD D) (hS : cd_okS D S) (hj : ce_inj D S) (hP : cf_P D p I J) (hQ : cf_S D S s I) : cw L w (cd_c 53 [.ref z, .ref p, .ref s] (cd_mm L w I J)) (fun v I1 J1 => v = none ∧ J1 = J ∧ (∀ a j, ¬ (z + 1 ≤ a ∧ a ≤ z + 3) → I1 a j = I a j) ∧ cf_V z (cf_H D S) I1) := by
  have h8 := hD.1.1
  have h3 := hD.1.2.1
  have h12 := hD.1.2.2.1
  have hl1 : S 0 1 < 65536 := Nat.lt_of_lt_of_le hS.2.1 (Nat.le_trans (Nat.pow_le_pow_right (by decide) h8) (by decide))
  have hl2 : S 0 2 < 65536 := Nat.lt_of_lt_of_le hS.2.2.1 (Nat.le_trans (Nat.pow_le_pow_right (by decide) h12) (by decide))
  refine cw_c (l := [.ref z, .ref p, .ref s, .null]) (by rcases hp with rfl | rfl <;> rcases hs with rfl | rfl <;> rcases hz with rfl | rfl <;> rfl) (by rcases hp with rfl | rfl <;> rcases hs with rfl | rfl <;> rcases hz with rfl | rfl <;> rfl) ?_
  refine cw_m (fun _ => cd_s53_0 hp hs hz) ?_
  refine cw_cv (cw_mono (cp_2 (n := 192) (by decide) (fun _ _ => by rcases hz with rfl | rfl <;> exact ⟨rfl, rfl⟩) (by rcases hz with rfl | rfl <;> rfl) (by rcases hz with rfl | rfl <;> rfl)) ?_)
  intro v I1 J1 ⟨hv, hJ, f1⟩
  have hJ := hJ.symm; subst hJ
  refine ⟨hv, ?_⟩
  refine cw_m (fun _ => cd_s53_4 hp hs hz) ?_
  refine cw_cv (cw_mono (cp_2 (n := 192) (by decide) (fun _ _ => by rcases hz with rfl | rfl <;> exact ⟨rfl, rfl⟩) (by rcases hz with rfl | rfl <;> rfl) (by rcases hz with rfl | rfl <;> rfl)) ?_)
  intro v I2 J2 ⟨hv, hJ, f2⟩
  have hJ := hJ.symm; subst hJ
  refine ⟨hv, ?_⟩
  refine cw_m (fun _ => cd_s53_8 hp hs hz) ?_
  refine cw_cv (cw_mono (cp_2 (n := 64) (by decide) (fun _ _ => by rcases hz with rfl | rfl <;> exact ⟨rfl, rfl⟩) (by rcases hz with rfl | rfl <;> rfl) (by rcases hz with rfl | rfl <;> rfl)) ?_)
  intro v I3 J3 ⟨hv, hJ, f3⟩
  have hJ := hJ.symm; subst hJ
  refine ⟨hv, ?_⟩
  have g3 : ∀ a j, ¬ (z + 1 ≤ a ∧ a ≤ z + 3) → I3 a j = I a j := fun a j h => by
    rw [f3, if_neg (by omega), f2, if_neg (by omega), f1, if_neg (by omega)]
  have T3 : cf_T z (cf_A D S 0) I3 := fun k c hk hc => by
    rw [f3, if_neg (by omega), f2, if_neg (by omega), f1, if_pos ⟨rfl, by omega⟩, f3, if_neg (by omega), f2, if_pos ⟨rfl, by omega⟩]
    have : cf_A D S 0 k c = none := by unfold cf_A; split <;> rfl
    rw [this]
    exact ⟨rfl, rfl⟩
  have G3 : ∀ c, c < 64 → I3 (z + 3) c = nI (cf_gr D S 0 c) := fun c hc => by
    rw [f3, if_pos ⟨rfl, hc⟩]
    rfl
  clear f1 f2 f3
  refine cw_m (fun _ => cd_s53_12 hp hs hz) ?_
  -- the cloths dropped
  have third : ∀ I4 : Nat → Nat → Int32, (∀ a j, ¬ (z + 1 ≤ a ∧ a ≤ z + 3) → I4 a j = I a j) → (∀ c, c < 64 → I4 (z + 3) c = nI (cd_gnd D S c)) → cf_T z (cf_A D S (D 0 2)) I4 → cw L w (cd_go 53 68 [.ref z, .ref p, .ref s, .int (nI 0)] [] (cd_mm L w I4 J)) (fun v I1 J1 => v = none ∧ J1 = J ∧ (∀ a j, ¬ (z + 1 ≤ a ∧ a ≤ z + 3) → I1 a j = I a j) ∧ cf_V z (cf_H D S) I1) := by
    intro I4 f4 G4 T4
    have V4 : cf_V z (cf_F D S 0) I4 := T4.toV.cong (fun k c _ _ => rfl)
    refine cw_up (fun i (I5 : Nat → Nat → Int32) => cd_go 53 68 [.ref z, .ref p, .ref s, .int (nI i)] [] (cd_mm L w I5 J)) (fun i I5 => (∀ a j, a ≠ z + 1 → a ≠ z + 2 → I5 a j = I4 a j) ∧ cf_V z (cf_F D S i) I5) (D 0 1) ?_ ?_ 0 I4 (Nat.zero_le _) ⟨fun _ _ _ _ => rfl, V4⟩
    · intro I5 ⟨f5, V5⟩
      refine cw_m (fun _ => cd_s53_68 hp hs hz) ?_
      rw [f5 _ _ (by omega) (by omega), f4 _ _ (by omega), hP.1.2.1, if_neg (fun h => Int32.lt_irrefl h)]
      exact cw_ret ⟨rfl, rfl, fun a j h => (f5 a j (by omega) (by omega)).trans (f4 a j h), V5.cong (fun k c _ _ => cf_F_H k c)⟩
    · intro i I5 hi ⟨f5, V5⟩ K
      refine cw_m (fun _ => cd_s53_68 hp hs hz) ?_
      have hP5 := hP.of (I1 := I5) (J1 := J) (fun a k h1 h2 => (f5 a k (by omega) (by omega)).trans (f4 a k (by omega))) (fun _ => rfl)
      rw [hP5.1.2.1, if_pos (nI_lt hi (by omega))]
      refine cw_cv (cw_mono (cp_52 hp hz hD hP5 (cf_F_b hD hS (by omega)) hi (fun c hc => (f5 _ _ (by omega) (by omega)).trans (G4 c hc)) V5) ?_)
      intro v I6 J6 ⟨hv, hJ, f6, V6⟩
      have hJ := hJ.symm; subst hJ
      refine ⟨hv, ?_⟩
      refine cw_m (fun _ => cd_s53_76 hp hs hz) ?_
      rw [nI_1]
      exact K I6 ⟨fun a j h1 h2 => (f6 a j h1 h2).trans (f5 a j h1 h2), V6.cong (fun k c _ _ => cf_F_st hi k c)⟩
  -- the holds stretched
  have second : ∀ I4 : Nat → Nat → Int32, (∀ a j, ¬ (z + 1 ≤ a ∧ a ≤ z + 3) → I4 a j = I a j) → (∀ c, c < 64 → I4 (z + 3) c = nI (cd_gnd D S c)) → cf_T z (cf_A D S 0) I4 → cw L w (cd_go 53 42 [.ref z, .ref p, .ref s, .int (nI 0)] [] (cd_mm L w I4 J)) (fun v I1 J1 => v = none ∧ J1 = J ∧ (∀ a j, ¬ (z + 1 ≤ a ∧ a ≤ z + 3) → I1 a j = I a j) ∧ cf_V z (cf_H D S) I1) := by
    intro I4 f4 G4 T4
    refine cw_up (fun i (I5 : Nat → Nat → Int32) => cd_go 53 42 [.ref z, .ref p, .ref s, .int (nI i)] [] (cd_mm L w I5 J)) (fun i I5 => (∀ a j, a ≠ z + 1 → a ≠ z + 2 → I5 a j = I4 a j) ∧ cf_T z (cf_A D S i) I5) (D 0 2) ?_ ?_ 0 I4 (Nat.zero_le _) ⟨fun _ _ _ _ => rfl, T4⟩
    · intro I5 ⟨f5, T5⟩
      refine cw_m (fun _ => cd_s53_42 hp hs hz) ?_
      rw [f5 _ _ (by omega) (by omega), f4 _ _ (by omega), hP.1.2.2.1, if_neg (fun h => Int32.lt_irrefl h)]
      exact third I5 (fun a j h => (f5 a j (by omega) (by omega)).trans (f4 a j h)) (fun c hc => (f5 _ _ (by omega) (by omega)).trans (G4 c hc)) T5
    · intro i I5 hi ⟨f5, T5⟩ K
      refine cw_m (fun _ => cd_s53_42 hp hs hz) ?_
      have g5 : ∀ a j, ¬ (z + 1 ≤ a ∧ a ≤ z + 3) → I5 a j = I a j := fun a j h => (f5 a j (by omega) (by omega)).trans (f4 a j h)
      have hP5 := hP.of (I1 := I5) (J1 := J) (fun a k h1 h2 => g5 a k (by omega)) (fun _ => rfl)
      have hQ5 := hQ.of (I1 := I5) (fun a k h1 h2 => g5 a k (by omega))
      obtain ⟨d11, d12⟩ := hD.2.2.2 i hi
      rw [hP5.1.2.2.1, if_pos (nI_lt hi (by omega)), hQ5.1.2]
      cases hb : (S 0 2).testBit i with
      | false =>
        rw [if_pos ((nx_bit hl2 (by omega)).mpr hb)]
        refine cw_m (fun _ => cd_s53_64 hp hs hz) ?_
        rw [nI_1]
        exact K I5 ⟨f5, T5.cong (fun k c _ _ => cf_A_no hb k c)⟩
      | true =>
        rw [if_neg (fun q => by rw [(nx_bit hl2 (by omega)).mp q] at hb; cases hb), if_pos (cd_inN (by omega) (by decide)), nI_clamp (by omega), (hP5.2.2.2 i hi).2, if_pos (cd_inN (by omega) (by decide)), nI_clamp (by omega), hQ5.2.1 _ d12]
        have hgnd : cd_gnd D S (S 1 (D 12 i)) = cd_top D S (D 12 i) := cf_gnd_at hj d12
        refine cw_cv (cw_mono (cp_51 hp hz hD hP5 hS.1 (cf_A_b hD hS (Nat.le_of_lt hi)) hi (by rw [f5 _ _ (by omega) (by omega), G4 _ (hS.1 _ d12), hgnd]) T5) ?_)
        intro v I6 J6 ⟨hv, hJ, f6, T6⟩
        have hJ := hJ.symm; subst hJ
        refine ⟨hv, ?_⟩
        refine cw_m (fun _ => cd_s53_64 hp hs hz) ?_
        rw [nI_1]
        exact K I6 ⟨fun a j h1 h2 => (f6 a j h1 h2).trans (f5 a j h1 h2), T6.cong (fun k c _ _ => cf_A_st hD hi hb k c)⟩
  -- the ground
  refine cw_up (fun i (I5 : Nat → Nat → Int32) => cd_go 53 14 [.ref z, .ref p, .ref s, .int (nI i)] [] (cd_mm L w I5 J)) (fun i I5 => (∀ a j, a ≠ z + 3 → I5 a j = I3 a j) ∧ ∀ c, c < 64 → I5 (z + 3) c = nI (cf_gr D S i c)) (D 0 0) ?_ ?_ 0 I3 (Nat.zero_le _) ⟨fun _ _ _ => rfl, G3⟩
  · intro I5 ⟨f5, G5⟩
    refine cw_m (fun _ => cd_s53_14 hp hs hz) ?_
    rw [f5 _ _ (by omega), g3 _ _ (by omega), hP.1.1, if_neg (fun h => Int32.lt_irrefl h)]
    exact second I5 (fun a j h => (f5 a j (by omega)).trans (g3 a j h)) G5 (fun k c hk hc => by
      rw [f5 _ _ (by omega), f5 _ _ (by omega)]
      exact T3 k c hk hc)
  · intro i I5 hi ⟨f5, G5⟩ K
    refine cw_m (fun _ => cd_s53_14 hp hs hz) ?_
    have g5 : ∀ a j, ¬ (z + 1 ≤ a ∧ a ≤ z + 3) → I5 a j = I a j := fun a j h => (f5 a j (by omega)).trans (g3 a j h)
    have hP5 := hP.of (I1 := I5) (J1 := J) (fun a k h1 h2 => g5 a k (by omega)) (fun _ => rfl)
    have hQ5 := hQ.of (I1 := I5) (fun a k h1 h2 => g5 a k (by omega))
    have h64 := hS.1 i hi
    have nx : ∀ y : Int32, y = nI (cd_top D S i) → cw L w (cd_go 53 14 [.ref z, .ref p, .ref s, .int (nI (i + 1))] [] (cd_mm L w (cd_up I5 (z + 3) (S 1 i) y) J)) _ := fun y hy => K (cd_up I5 (z + 3) (S 1 i) y) ⟨fun a j h => (cd_up_a h).trans (f5 a j h), fun c hc => by
      unfold cf_gr
      rw [show cd_last (fun t => Nat.beq (S 1 t) c) (i + 1) = if Nat.beq (S 1 i) c then some i else cd_last (fun t => Nat.beq (S 1 t) c) i from rfl]
      by_cases hci : c = S 1 i
      · rw [hci, cd_up_s, Nat.beq_refl, if_pos rfl, hy]
      · rw [cd_up_k hci, if_neg (fun q => hci (Nat.eq_of_beq_eq_true q).symm)]
        exact G5 c hc⟩
    rw [hP5.1.1, if_pos (nI_lt hi (by omega)), if_pos (cd_inN (by omega) (by decide)), hQ5.1.1, if_pos (cd_inN (by omega) (by decide)), nI_clamp (by omega), hQ5.2.1 i hi, if_pos (cd_inN (by omega) (by decide)), nI_clamp (n := S 1 i) (by omega), (hP5.2.1 i hi).1, nI_1]
    cases hb : (S 0 1).testBit i with
    | false =>
      rw [if_pos ((nx_bit hl1 (by omega)).mpr hb)]
      exact nx _ (by unfold cd_top; rw [hb]; rfl)
    | true =>
      rw [if_neg (fun q => by rw [(nx_bit hl1 (by omega)).mp q] at hb; cases hb)]
      rw [if_pos (cd_inN h64 (by decide))]
      exact nx 1 (by
        have : cd_top D S i = 1 := by unfold cd_top; rw [hb]; rfl
        rw [this]; rfl)
end CFT
